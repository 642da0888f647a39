/-! the constructors -/
def mk_E6 (N : Nat) (σ : am_H) : am_H := mk_fill (am_up σ N 4 1) (N + 1) 5 12
def mk_E2 (N : Nat) (σ : am_H) : am_H := mk_two σ (N + 4) (N + 5) (-2) 384
def mk_E7 (N : Nat) (σ : am_H) : am_H := am_up (am_up σ N 1 (-1)) N 2 (-1)
theorem mk_E6_k {N c k : Nat} {σ : am_H} (h : c ≠ N ∧ c ≠ N + 1) : mk_E6 N σ c k = σ c k := by
  unfold mk_E6; rw [mk_fill_k h.2, am_up_k (Or.inl h.1)]
theorem mk_E2_k {N c k : Nat} {σ : am_H} (h : c ≠ N + 4 ∧ c ≠ N + 5) : mk_E2 N σ c k = σ c k := by
  unfold mk_E2; rw [mk_two_k h]
theorem mk_E7_k {N c k : Nat} {σ : am_H} (h : c ≠ N) : mk_E7 N σ c k = σ c k := by
  unfold mk_E7; rw [am_up_k (Or.inl h), am_up_k (Or.inl h)]
set_option maxHeartbeats 4000000 in
set_option maxRecDepth 100000 in
theorem m_X6_init (pre : List am_S) (N : Nat) (hN : pre.length = N) (σ : am_H) (hz : ∀ c k : Nat, N ≤ c → σ c k = 0) (hb : N ≤ 900) : am_Mv yX6_init cX6_init 2 none 1 2 20 [vr N] (pre ++ ((15, 5, [none, none, none, none, none]) :: [])) σ (fun sh' σ' => pre ++ ((15, 5, [some (N + 1), some (N + 2), none, none, none]) :: [(0, 12, []), (0, 8, [])]) = sh' ∧ mk_E6 N σ = σ') := by
  refine am_Mv_of (by decide +kernel) (Nat.le_of_ble_eq_true rfl) (fun K X hY hI hret => ?_)
  show am_G K 0 [some (vr N), none] [] (pre ++ ((15, 5, [none, none, none, none, none]) :: [])) σ
  replace hY : am_Y K 1 (N + 1 + 2) (am_sl pre + 25) := by
    rw [ap_len hN, ap_sl, Nat.add_assoc (am_sl pre)] at hY; exact hY
  refine am_aload_n (x := N) X (by rfl) dX6_init_0 ?_
  refine am_objInit X hY lk_X6_3 (by decide) (Nat.le_of_ble_eq_true rfl) dX6_init_1 ?_
  refine am_aload_n (x := N) X (by rfl) dX6_init_4 ?_
  refine am_bipush X (by decide) dX6_init_5 ?_
  refine mk_newI (n := 12) (U' := [(0, 12, [])]) (M := N + 1) X hY hN rfl rfl (fun k => hz _ k (by omega)) (Nat.le_of_ble_eq_true rfl) (Nat.le_of_ble_eq_true rfl) (by omega) (by decide) dX6_init_7 ?_
  refine mk_putr X (hI rfl) (ci := 5) (k0 := 0) (n := 5) (c1 := N + 1) (rs' := [some (N + 1), none, none, none, none]) hN fl_X6_9 rfl rfl rfl (by decide) rfl (by show _ < _; simp only [List.length]; omega) rfl dX6_init_9 ?_
  refine am_aload_n (x := N) X (by rfl) dX6_init_12 ?_
  refine am_bipush X (by decide) dX6_init_13 ?_
  refine mk_newI (n := 8) (U' := [(0, 12, []), (0, 8, [])]) (M := N + 2) X hY hN rfl rfl (fun k => hz _ k (by omega)) (Nat.le_of_ble_eq_true rfl) (Nat.le_of_ble_eq_true rfl) (by omega) (by decide) dX6_init_15 ?_
  refine mk_putr X (hI rfl) (ci := 5) (k0 := 1) (n := 5) (c1 := N + 2) (rs' := [some (N + 1), some (N + 2), none, none, none]) hN fl_X6_15 rfl rfl rfl (by decide) rfl (by show _ < _; simp only [List.length]; omega) rfl dX6_init_17 ?_
  refine am_aload_n (x := N) X (by rfl) dX6_init_20 ?_
  refine am_ic X (by decide) dX6_init_21 ?_
  refine am_puti X N fl_X6_18 rfl rfl (ap_0 hN) (by decide) dX6_init_22 ?_
  refine am_ic X (by decide) dX6_init_25 ?_
  refine am_istore_n (i := 1) (L' := [some (vr N), some (vi 0)]) X rfl (Nat.le_of_ble_eq_true rfl) (by rfl) dX6_init_26 ?_
  have hL27 : ∀ (m27 : Nat) (j : Nat) (hj : (j : Int) ≤ 12) (hm27 : 12 - j = m27), am_G K 27 [some (vr N), some (vi (j : Int))] [] (pre ++ ((15, 5, [some (N + 1), some (N + 2), none, none, none]) :: [(0, 12, []), (0, 8, [])])) (mk_fill (am_up σ N 4 1) (N + 1) 5 j) := by
    intro m27
    induction m27 using Nat.strongRecOn with
    | ind m27 ih27 =>
    intro j hj hm27
    refine am_iload_n (x := (j : Int)) X (by rfl) dX6_init_27 ?_
    refine am_bipush X (by decide) dX6_init_28 ?_
    refine am_icmp_ge (tgt := 46) X dX6_init_30 (by decide) (fun h30 => ?_) (fun h30 => ?_)
    · skip
      exact hret _ _ _ _ dX6_init_46 (by rw [ap_len hN, ap_len hN]; rfl) (by rw [ap_sl, ap_sl, Nat.add_assoc]; rfl) (⟨rfl, by rw [show j = 12 by omega]; rfl⟩)
    · skip
      refine am_aload_n (x := N) X (by rfl) dX6_init_33 ?_
      refine am_getr (c1 := N + 1) X N fl_X6_9 (by decide) (ap_0 hN) (by decide) (by rfl) dX6_init_34 ?_
      refine am_iload_n (x := (j : Int)) X (by rfl) dX6_init_37 ?_
      refine am_ic X (by decide) dX6_init_38 ?_
      refine am_ast X (N + 1) j ((ap_j hN 0).trans rfl) (by omega) (by omega) dX6_init_39 ?_
      refine am_inc (x := (j : Int)) (v := ((j : Int) + 1)) (L' := [some (vr N), some (vi ((j : Int) + 1))]) X (by rfl) (by omega) (by omega) (by rfl) dX6_init_40 ?_
      refine am_goto (tgt := 27) X dX6_init_43 (by decide) ?_
      refine am_sg (mk_fill (am_up σ N 4 1) (N + 1) 5 (j + 1)) (mk_fill_s _ _ _ _) ?_
      exact ih27 _ (by omega) (j + 1) (by omega) rfl
  refine am_sg (mk_fill (am_up σ N 4 1) (N + 1) 5 0) ((mk_fill_0 _ _ _).symm) ?_
  exact hL27 _ 0 (by omega) rfl

set_option maxHeartbeats 4000000 in
set_option maxRecDepth 100000 in
theorem m_X1_init (pre : List am_S) (N : Nat) (hN : pre.length = N) (σ : am_H) (hz : ∀ c k : Nat, N ≤ c → σ c k = 0) (hb : N ≤ 900) : am_Mv yX1_init cX1_init 1 none 1 4 160 [vr N] (pre ++ ((11, 6, [none, none, none, none, none, none]) :: [])) σ (fun sh' σ' => pre ++ ((11, 6, [some (N + 1), some (N + 2), some (N + 3), some (N + 4), none, none]) :: [(0, 40, []), (0, 40, []), (0, 40, []), (0, 40, [])]) = sh' ∧ σ = σ') := by
  refine am_Mv_of (by decide +kernel) (Nat.le_of_ble_eq_true rfl) (fun K X hY hI hret => ?_)
  show am_G K 0 [some (vr N)] [] (pre ++ ((11, 6, [none, none, none, none, none, none]) :: [])) σ
  replace hY : am_Y K 1 (N + 1 + 4) (am_sl pre + 166) := by
    rw [ap_len hN, ap_sl, Nat.add_assoc (am_sl pre)] at hY; exact hY
  refine am_aload_n (x := N) X (by rfl) dX1_init_0 ?_
  refine am_objInit X hY lk_X1_3 (by decide) (Nat.le_of_ble_eq_true rfl) dX1_init_1 ?_
  refine am_aload_n (x := N) X (by rfl) dX1_init_4 ?_
  refine am_bipush X (by decide) dX1_init_5 ?_
  refine mk_newI (n := 40) (U' := [(0, 40, [])]) (M := N + 1) X hY hN rfl rfl (fun k => hz _ k (by omega)) (Nat.le_of_ble_eq_true rfl) (Nat.le_of_ble_eq_true rfl) (by omega) (by decide) dX1_init_7 ?_
  refine mk_putr X (hI rfl) (ci := 1) (k0 := 0) (n := 6) (c1 := N + 1) (rs' := [some (N + 1), none, none, none, none, none]) hN fl_X1_9 rfl rfl rfl (by decide) rfl (by show _ < _; simp only [List.length]; omega) rfl dX1_init_9 ?_
  refine am_aload_n (x := N) X (by rfl) dX1_init_12 ?_
  refine am_bipush X (by decide) dX1_init_13 ?_
  refine mk_newI (n := 40) (U' := [(0, 40, []), (0, 40, [])]) (M := N + 2) X hY hN rfl rfl (fun k => hz _ k (by omega)) (Nat.le_of_ble_eq_true rfl) (Nat.le_of_ble_eq_true rfl) (by omega) (by decide) dX1_init_15 ?_
  refine mk_putr X (hI rfl) (ci := 1) (k0 := 1) (n := 6) (c1 := N + 2) (rs' := [some (N + 1), some (N + 2), none, none, none, none]) hN fl_X1_15 rfl rfl rfl (by decide) rfl (by show _ < _; simp only [List.length]; omega) rfl dX1_init_17 ?_
  refine am_aload_n (x := N) X (by rfl) dX1_init_20 ?_
  refine am_bipush X (by decide) dX1_init_21 ?_
  refine mk_newI (n := 40) (U' := [(0, 40, []), (0, 40, []), (0, 40, [])]) (M := N + 3) X hY hN rfl rfl (fun k => hz _ k (by omega)) (Nat.le_of_ble_eq_true rfl) (Nat.le_of_ble_eq_true rfl) (by omega) (by decide) dX1_init_23 ?_
  refine mk_putr X (hI rfl) (ci := 1) (k0 := 2) (n := 6) (c1 := N + 3) (rs' := [some (N + 1), some (N + 2), some (N + 3), none, none, none]) hN fl_X1_18 rfl rfl rfl (by decide) rfl (by show _ < _; simp only [List.length]; omega) rfl dX1_init_25 ?_
  refine am_aload_n (x := N) X (by rfl) dX1_init_28 ?_
  refine am_bipush X (by decide) dX1_init_29 ?_
  refine mk_newI (n := 40) (U' := [(0, 40, []), (0, 40, []), (0, 40, []), (0, 40, [])]) (M := N + 4) X hY hN rfl rfl (fun k => hz _ k (by omega)) (Nat.le_of_ble_eq_true rfl) (Nat.le_of_ble_eq_true rfl) (by omega) (by decide) dX1_init_31 ?_
  refine mk_putr X (hI rfl) (ci := 1) (k0 := 3) (n := 6) (c1 := N + 4) (rs' := [some (N + 1), some (N + 2), some (N + 3), some (N + 4), none, none]) hN fl_X1_21 rfl rfl rfl (by decide) rfl (by show _ < _; simp only [List.length]; omega) rfl dX1_init_33 ?_
  exact hret _ _ _ _ dX1_init_36 (by rw [ap_len hN, ap_len hN]; rfl) (by rw [ap_sl, ap_sl, Nat.add_assoc]; rfl) (⟨rfl, rfl⟩)

set_option maxHeartbeats 4000000 in
set_option maxRecDepth 100000 in
theorem m_X3_init (pre : List am_S) (N : Nat) (hN : pre.length = N) (σ : am_H) (hz : ∀ c k : Nat, N ≤ c → σ c k = 0) (hb : N ≤ 900) : am_Mv yX3_init cX3_init 1 none 1 6 609 [vr N] (pre ++ ((13, 15, [none, none, none, none, none, none, none, none, none, none, none, none, none, none, none]) :: [])) σ (fun sh' σ' => pre ++ ((13, 15, [some (N + 1), some (N + 2), some (N + 3), some (N + 4), some (N + 5), some (N + 6), none, none, none, none, none, none, none, none, none]) :: [(0, 120, []), (0, 121, []), (0, 121, []), (0, 120, []), (0, 121, []), (0, 6, [])]) = sh' ∧ σ = σ') := by
  refine am_Mv_of (by decide +kernel) (Nat.le_of_ble_eq_true rfl) (fun K X hY hI hret => ?_)
  show am_G K 0 [some (vr N)] [] (pre ++ ((13, 15, [none, none, none, none, none, none, none, none, none, none, none, none, none, none, none]) :: [])) σ
  replace hY : am_Y K 1 (N + 1 + 6) (am_sl pre + 624) := by
    rw [ap_len hN, ap_sl, Nat.add_assoc (am_sl pre)] at hY; exact hY
  refine am_aload_n (x := N) X (by rfl) dX3_init_0 ?_
  refine am_objInit X hY lk_X3_5 (by decide) (Nat.le_of_ble_eq_true rfl) dX3_init_1 ?_
  refine am_aload_n (x := N) X (by rfl) dX3_init_4 ?_
  refine am_bipush X (by decide) dX3_init_5 ?_
  refine mk_newI (n := 120) (U' := [(0, 120, [])]) (M := N + 1) X hY hN rfl rfl (fun k => hz _ k (by omega)) (Nat.le_of_ble_eq_true rfl) (Nat.le_of_ble_eq_true rfl) (by omega) (by decide) dX3_init_7 ?_
  refine mk_putr X (hI rfl) (ci := 3) (k0 := 0) (n := 15) (c1 := N + 1) (rs' := [some (N + 1), none, none, none, none, none, none, none, none, none, none, none, none, none, none]) hN fl_X3_11 rfl rfl rfl (by decide) rfl (by show _ < _; simp only [List.length]; omega) rfl dX3_init_9 ?_
  refine am_aload_n (x := N) X (by rfl) dX3_init_12 ?_
  refine am_bipush X (by decide) dX3_init_13 ?_
  refine mk_newI (n := 121) (U' := [(0, 120, []), (0, 121, [])]) (M := N + 2) X hY hN rfl rfl (fun k => hz _ k (by omega)) (Nat.le_of_ble_eq_true rfl) (Nat.le_of_ble_eq_true rfl) (by omega) (by decide) dX3_init_15 ?_
  refine mk_putr X (hI rfl) (ci := 3) (k0 := 1) (n := 15) (c1 := N + 2) (rs' := [some (N + 1), some (N + 2), none, none, none, none, none, none, none, none, none, none, none, none, none]) hN fl_X3_15 rfl rfl rfl (by decide) rfl (by show _ < _; simp only [List.length]; omega) rfl dX3_init_17 ?_
  refine am_aload_n (x := N) X (by rfl) dX3_init_20 ?_
  refine am_bipush X (by decide) dX3_init_21 ?_
  refine mk_newI (n := 121) (U' := [(0, 120, []), (0, 121, []), (0, 121, [])]) (M := N + 3) X hY hN rfl rfl (fun k => hz _ k (by omega)) (Nat.le_of_ble_eq_true rfl) (Nat.le_of_ble_eq_true rfl) (by omega) (by decide) dX3_init_23 ?_
  refine mk_putr X (hI rfl) (ci := 3) (k0 := 2) (n := 15) (c1 := N + 3) (rs' := [some (N + 1), some (N + 2), some (N + 3), none, none, none, none, none, none, none, none, none, none, none, none]) hN fl_X3_18 rfl rfl rfl (by decide) rfl (by show _ < _; simp only [List.length]; omega) rfl dX3_init_25 ?_
  refine am_aload_n (x := N) X (by rfl) dX3_init_28 ?_
  refine am_bipush X (by decide) dX3_init_29 ?_
  refine mk_newI (n := 120) (U' := [(0, 120, []), (0, 121, []), (0, 121, []), (0, 120, [])]) (M := N + 4) X hY hN rfl rfl (fun k => hz _ k (by omega)) (Nat.le_of_ble_eq_true rfl) (Nat.le_of_ble_eq_true rfl) (by omega) (by decide) dX3_init_31 ?_
  refine mk_putr X (hI rfl) (ci := 3) (k0 := 3) (n := 15) (c1 := N + 4) (rs' := [some (N + 1), some (N + 2), some (N + 3), some (N + 4), none, none, none, none, none, none, none, none, none, none, none]) hN fl_X3_21 rfl rfl rfl (by decide) rfl (by show _ < _; simp only [List.length]; omega) rfl dX3_init_33 ?_
  refine am_aload_n (x := N) X (by rfl) dX3_init_36 ?_
  refine am_bipush X (by decide) dX3_init_37 ?_
  refine mk_newI (n := 121) (U' := [(0, 120, []), (0, 121, []), (0, 121, []), (0, 120, []), (0, 121, [])]) (M := N + 5) X hY hN rfl rfl (fun k => hz _ k (by omega)) (Nat.le_of_ble_eq_true rfl) (Nat.le_of_ble_eq_true rfl) (by omega) (by decide) dX3_init_39 ?_
  refine mk_putr X (hI rfl) (ci := 3) (k0 := 4) (n := 15) (c1 := N + 5) (rs' := [some (N + 1), some (N + 2), some (N + 3), some (N + 4), some (N + 5), none, none, none, none, none, none, none, none, none, none]) hN fl_X3_24 rfl rfl rfl (by decide) rfl (by show _ < _; simp only [List.length]; omega) rfl dX3_init_41 ?_
  refine am_aload_n (x := N) X (by rfl) dX3_init_44 ?_
  refine am_bipush X (by decide) dX3_init_45 ?_
  refine mk_newI (n := 6) (U' := [(0, 120, []), (0, 121, []), (0, 121, []), (0, 120, []), (0, 121, []), (0, 6, [])]) (M := N + 6) X hY hN rfl rfl (fun k => hz _ k (by omega)) (Nat.le_of_ble_eq_true rfl) (Nat.le_of_ble_eq_true rfl) (by omega) (by decide) dX3_init_47 ?_
  refine mk_putr X (hI rfl) (ci := 3) (k0 := 5) (n := 15) (c1 := N + 6) (rs' := [some (N + 1), some (N + 2), some (N + 3), some (N + 4), some (N + 5), some (N + 6), none, none, none, none, none, none, none, none, none]) hN fl_X3_27 rfl rfl rfl (by decide) rfl (by show _ < _; simp only [List.length]; omega) rfl dX3_init_49 ?_
  exact hret _ _ _ _ dX3_init_52 (by rw [ap_len hN, ap_len hN]; rfl) (by rw [ap_sl, ap_sl, Nat.add_assoc]; rfl) (⟨rfl, rfl⟩)

set_option maxHeartbeats 4000000 in
set_option maxRecDepth 100000 in
theorem m_X4_init (pre : List am_S) (N : Nat) (hN : pre.length = N) (σ : am_H) (hz : ∀ c k : Nat, N ≤ c → σ c k = 0) (hb : N ≤ 900) : am_Mv yX4_init cX4_init 1 none 1 5 100 [vr N] (pre ++ ((14, 6, [none, none, none, none, none, none]) :: [])) σ (fun sh' σ' => pre ++ ((14, 6, [some (N + 1), some (N + 2), some (N + 3), some (N + 4), some (N + 5), none]) :: [(0, 20, []), (0, 20, []), (0, 20, []), (0, 20, []), (0, 20, [])]) = sh' ∧ σ = σ') := by
  refine am_Mv_of (by decide +kernel) (Nat.le_of_ble_eq_true rfl) (fun K X hY hI hret => ?_)
  show am_G K 0 [some (vr N)] [] (pre ++ ((14, 6, [none, none, none, none, none, none]) :: [])) σ
  replace hY : am_Y K 1 (N + 1 + 5) (am_sl pre + 106) := by
    rw [ap_len hN, ap_sl, Nat.add_assoc (am_sl pre)] at hY; exact hY
  refine am_aload_n (x := N) X (by rfl) dX4_init_0 ?_
  refine am_objInit X hY lk_X4_3 (by decide) (Nat.le_of_ble_eq_true rfl) dX4_init_1 ?_
  refine am_aload_n (x := N) X (by rfl) dX4_init_4 ?_
  refine am_bipush X (by decide) dX4_init_5 ?_
  refine mk_newI (n := 20) (U' := [(0, 20, [])]) (M := N + 1) X hY hN rfl rfl (fun k => hz _ k (by omega)) (Nat.le_of_ble_eq_true rfl) (Nat.le_of_ble_eq_true rfl) (by omega) (by decide) dX4_init_7 ?_
  refine mk_putr X (hI rfl) (ci := 4) (k0 := 0) (n := 6) (c1 := N + 1) (rs' := [some (N + 1), none, none, none, none, none]) hN fl_X4_9 rfl rfl rfl (by decide) rfl (by show _ < _; simp only [List.length]; omega) rfl dX4_init_9 ?_
  refine am_aload_n (x := N) X (by rfl) dX4_init_12 ?_
  refine am_bipush X (by decide) dX4_init_13 ?_
  refine mk_newI (n := 20) (U' := [(0, 20, []), (0, 20, [])]) (M := N + 2) X hY hN rfl rfl (fun k => hz _ k (by omega)) (Nat.le_of_ble_eq_true rfl) (Nat.le_of_ble_eq_true rfl) (by omega) (by decide) dX4_init_15 ?_
  refine mk_putr X (hI rfl) (ci := 4) (k0 := 1) (n := 6) (c1 := N + 2) (rs' := [some (N + 1), some (N + 2), none, none, none, none]) hN fl_X4_15 rfl rfl rfl (by decide) rfl (by show _ < _; simp only [List.length]; omega) rfl dX4_init_17 ?_
  refine am_aload_n (x := N) X (by rfl) dX4_init_20 ?_
  refine am_bipush X (by decide) dX4_init_21 ?_
  refine mk_newI (n := 20) (U' := [(0, 20, []), (0, 20, []), (0, 20, [])]) (M := N + 3) X hY hN rfl rfl (fun k => hz _ k (by omega)) (Nat.le_of_ble_eq_true rfl) (Nat.le_of_ble_eq_true rfl) (by omega) (by decide) dX4_init_23 ?_
  refine mk_putr X (hI rfl) (ci := 4) (k0 := 2) (n := 6) (c1 := N + 3) (rs' := [some (N + 1), some (N + 2), some (N + 3), none, none, none]) hN fl_X4_18 rfl rfl rfl (by decide) rfl (by show _ < _; simp only [List.length]; omega) rfl dX4_init_25 ?_
  refine am_aload_n (x := N) X (by rfl) dX4_init_28 ?_
  refine am_bipush X (by decide) dX4_init_29 ?_
  refine mk_newI (n := 20) (U' := [(0, 20, []), (0, 20, []), (0, 20, []), (0, 20, [])]) (M := N + 4) X hY hN rfl rfl (fun k => hz _ k (by omega)) (Nat.le_of_ble_eq_true rfl) (Nat.le_of_ble_eq_true rfl) (by omega) (by decide) dX4_init_31 ?_
  refine mk_putr X (hI rfl) (ci := 4) (k0 := 3) (n := 6) (c1 := N + 4) (rs' := [some (N + 1), some (N + 2), some (N + 3), some (N + 4), none, none]) hN fl_X4_21 rfl rfl rfl (by decide) rfl (by show _ < _; simp only [List.length]; omega) rfl dX4_init_33 ?_
  refine am_aload_n (x := N) X (by rfl) dX4_init_36 ?_
  refine am_bipush X (by decide) dX4_init_37 ?_
  refine mk_newI (n := 20) (U' := [(0, 20, []), (0, 20, []), (0, 20, []), (0, 20, []), (0, 20, [])]) (M := N + 5) X hY hN rfl rfl (fun k => hz _ k (by omega)) (Nat.le_of_ble_eq_true rfl) (Nat.le_of_ble_eq_true rfl) (by omega) (by decide) dX4_init_39 ?_
  refine mk_putr X (hI rfl) (ci := 4) (k0 := 4) (n := 6) (c1 := N + 5) (rs' := [some (N + 1), some (N + 2), some (N + 3), some (N + 4), some (N + 5), none]) hN fl_X4_24 rfl rfl rfl (by decide) rfl (by show _ < _; simp only [List.length]; omega) rfl dX4_init_41 ?_
  exact hret _ _ _ _ dX4_init_44 (by rw [ap_len hN, ap_len hN]; rfl) (by rw [ap_sl, ap_sl, Nat.add_assoc]; rfl) (⟨rfl, rfl⟩)

set_option maxHeartbeats 4000000 in
set_option maxRecDepth 100000 in
theorem m_X2_init (pre : List am_S) (N : Nat) (hN : pre.length = N) (σ : am_H) (hz : ∀ c k : Nat, N ≤ c → σ c k = 0) (hb : N ≤ 900) : am_Mv yX2_init cX2_init 2 none 1 6 866 [vr N] (pre ++ ((12, 8, [none, none, none, none, none, none, none, none]) :: [])) σ (fun sh' σ' => pre ++ ((12, 8, [some (N + 1), some (N + 2), some (N + 3), some (N + 4), some (N + 5), some (N + 6), none, none]) :: [(0, 30, []), (0, 30, []), (2, 30, []), (0, 384, []), (0, 384, []), (0, 8, [])]) = sh' ∧ mk_E2 N σ = σ') := by
  refine am_Mv_of (by decide +kernel) (Nat.le_of_ble_eq_true rfl) (fun K X hY hI hret => ?_)
  show am_G K 0 [some (vr N), none] [] (pre ++ ((12, 8, [none, none, none, none, none, none, none, none]) :: [])) σ
  replace hY : am_Y K 1 (N + 1 + 6) (am_sl pre + 874) := by
    rw [ap_len hN, ap_sl, Nat.add_assoc (am_sl pre)] at hY; exact hY
  refine am_aload_n (x := N) X (by rfl) dX2_init_0 ?_
  refine am_objInit X hY lk_X2_3 (by decide) (Nat.le_of_ble_eq_true rfl) dX2_init_1 ?_
  refine am_aload_n (x := N) X (by rfl) dX2_init_4 ?_
  refine am_bipush X (by decide) dX2_init_5 ?_
  refine mk_newI (n := 30) (U' := [(0, 30, [])]) (M := N + 1) X hY hN rfl rfl (fun k => hz _ k (by omega)) (Nat.le_of_ble_eq_true rfl) (Nat.le_of_ble_eq_true rfl) (by omega) (by decide) dX2_init_7 ?_
  refine mk_putr X (hI rfl) (ci := 2) (k0 := 0) (n := 8) (c1 := N + 1) (rs' := [some (N + 1), none, none, none, none, none, none, none]) hN fl_X2_9 rfl rfl rfl (by decide) rfl (by show _ < _; simp only [List.length]; omega) rfl dX2_init_9 ?_
  refine am_aload_n (x := N) X (by rfl) dX2_init_12 ?_
  refine am_bipush X (by decide) dX2_init_13 ?_
  refine mk_newI (n := 30) (U' := [(0, 30, []), (0, 30, [])]) (M := N + 2) X hY hN rfl rfl (fun k => hz _ k (by omega)) (Nat.le_of_ble_eq_true rfl) (Nat.le_of_ble_eq_true rfl) (by omega) (by decide) dX2_init_15 ?_
  refine mk_putr X (hI rfl) (ci := 2) (k0 := 1) (n := 8) (c1 := N + 2) (rs' := [some (N + 1), some (N + 2), none, none, none, none, none, none]) hN fl_X2_15 rfl rfl rfl (by decide) rfl (by show _ < _; simp only [List.length]; omega) rfl dX2_init_17 ?_
  refine am_aload_n (x := N) X (by rfl) dX2_init_20 ?_
  refine am_bipush X (by decide) dX2_init_21 ?_
  refine mk_newZ (n := 30) (U' := [(0, 30, []), (0, 30, []), (2, 30, [])]) (M := N + 3) X hY hN rfl rfl (fun k => hz _ k (by omega)) (Nat.le_of_ble_eq_true rfl) (Nat.le_of_ble_eq_true rfl) (by omega) (by decide) dX2_init_23 ?_
  refine mk_putr X (hI rfl) (ci := 2) (k0 := 2) (n := 8) (c1 := N + 3) (rs' := [some (N + 1), some (N + 2), some (N + 3), none, none, none, none, none]) hN fl_X2_18 rfl rfl rfl (by decide) rfl (by show _ < _; simp only [List.length]; omega) rfl dX2_init_25 ?_
  refine am_aload_n (x := N) X (by rfl) dX2_init_28 ?_
  refine am_sipush X (by decide) dX2_init_29 ?_
  refine mk_newI (n := 384) (U' := [(0, 30, []), (0, 30, []), (2, 30, []), (0, 384, [])]) (M := N + 4) X hY hN rfl rfl (fun k => hz _ k (by omega)) (Nat.le_of_ble_eq_true rfl) (Nat.le_of_ble_eq_true rfl) (by omega) (by decide) dX2_init_32 ?_
  refine mk_putr X (hI rfl) (ci := 2) (k0 := 3) (n := 8) (c1 := N + 4) (rs' := [some (N + 1), some (N + 2), some (N + 3), some (N + 4), none, none, none, none]) hN fl_X2_22 rfl rfl rfl (by decide) rfl (by show _ < _; simp only [List.length]; omega) rfl dX2_init_34 ?_
  refine am_aload_n (x := N) X (by rfl) dX2_init_37 ?_
  refine am_sipush X (by decide) dX2_init_38 ?_
  refine mk_newI (n := 384) (U' := [(0, 30, []), (0, 30, []), (2, 30, []), (0, 384, []), (0, 384, [])]) (M := N + 5) X hY hN rfl rfl (fun k => hz _ k (by omega)) (Nat.le_of_ble_eq_true rfl) (Nat.le_of_ble_eq_true rfl) (by omega) (by decide) dX2_init_41 ?_
  refine mk_putr X (hI rfl) (ci := 2) (k0 := 4) (n := 8) (c1 := N + 5) (rs' := [some (N + 1), some (N + 2), some (N + 3), some (N + 4), some (N + 5), none, none, none]) hN fl_X2_25 rfl rfl rfl (by decide) rfl (by show _ < _; simp only [List.length]; omega) rfl dX2_init_43 ?_
  refine am_aload_n (x := N) X (by rfl) dX2_init_46 ?_
  refine am_bipush X (by decide) dX2_init_47 ?_
  refine mk_newI (n := 8) (U' := [(0, 30, []), (0, 30, []), (2, 30, []), (0, 384, []), (0, 384, []), (0, 8, [])]) (M := N + 6) X hY hN rfl rfl (fun k => hz _ k (by omega)) (Nat.le_of_ble_eq_true rfl) (Nat.le_of_ble_eq_true rfl) (by omega) (by decide) dX2_init_49 ?_
  refine mk_putr X (hI rfl) (ci := 2) (k0 := 5) (n := 8) (c1 := N + 6) (rs' := [some (N + 1), some (N + 2), some (N + 3), some (N + 4), some (N + 5), some (N + 6), none, none]) hN fl_X2_28 rfl rfl rfl (by decide) rfl (by show _ < _; simp only [List.length]; omega) rfl dX2_init_51 ?_
  refine am_ic X (by decide) dX2_init_54 ?_
  refine am_istore_n (i := 1) (L' := [some (vr N), some (vi 0)]) X rfl (Nat.le_of_ble_eq_true rfl) (by rfl) dX2_init_55 ?_
  have hL56 : ∀ (m56 : Nat) (j : Nat) (hj : (j : Int) ≤ 384) (hm56 : 384 - j = m56), am_G K 56 [some (vr N), some (vi (j : Int))] [] (pre ++ ((12, 8, [some (N + 1), some (N + 2), some (N + 3), some (N + 4), some (N + 5), some (N + 6), none, none]) :: [(0, 30, []), (0, 30, []), (2, 30, []), (0, 384, []), (0, 384, []), (0, 8, [])])) (mk_two σ (N + 4) (N + 5) (-2) j) := by
    intro m56
    induction m56 using Nat.strongRecOn with
    | ind m56 ih56 =>
    intro j hj hm56
    refine am_iload_n (x := (j : Int)) X (by rfl) dX2_init_56 ?_
    refine am_sipush X (by decide) dX2_init_57 ?_
    refine am_icmp_ge (tgt := 85) X dX2_init_60 (by decide) (fun h60 => ?_) (fun h60 => ?_)
    · skip
      exact hret _ _ _ _ dX2_init_85 (by rw [ap_len hN, ap_len hN]; rfl) (by rw [ap_sl, ap_sl, Nat.add_assoc]; rfl) (⟨rfl, by rw [show j = 384 by omega]; rfl⟩)
    · skip
      refine am_aload_n (x := N) X (by rfl) dX2_init_63 ?_
      refine am_getr (c1 := N + 4) X N fl_X2_22 (by decide) (ap_0 hN) (by decide) (by rfl) dX2_init_64 ?_
      refine am_iload_n (x := (j : Int)) X (by rfl) dX2_init_67 ?_
      refine am_bipush X (by decide) dX2_init_68 ?_
      refine am_ast X (N + 4) j ((ap_j hN 3).trans rfl) (by omega) (by omega) dX2_init_70 ?_
      refine am_aload_n (x := N) X (by rfl) dX2_init_71 ?_
      refine am_getr (c1 := N + 5) X N fl_X2_25 (by decide) (ap_0 hN) (by decide) (by rfl) dX2_init_72 ?_
      refine am_iload_n (x := (j : Int)) X (by rfl) dX2_init_75 ?_
      refine am_bipush X (by decide) dX2_init_76 ?_
      refine am_ast X (N + 5) j ((ap_j hN 4).trans rfl) (by omega) (by omega) dX2_init_78 ?_
      refine am_inc (x := (j : Int)) (v := ((j : Int) + 1)) (L' := [some (vr N), some (vi ((j : Int) + 1))]) X (by rfl) (by omega) (by omega) (by rfl) dX2_init_79 ?_
      refine am_goto (tgt := 56) X dX2_init_82 (by decide) ?_
      refine am_sg (mk_two σ (N + 4) (N + 5) (-2) (j + 1)) (mk_two_s _ _ _ _ _) ?_
      exact ih56 _ (by omega) (j + 1) (by omega) rfl
  refine am_sg (mk_two σ (N + 4) (N + 5) (-2) 0) ((mk_two_0 _ _ _ _).symm) ?_
  exact hL56 _ 0 (by omega) rfl

set_option maxHeartbeats 4000000 in
set_option maxRecDepth 100000 in
theorem m_X8_init (pre : List am_S) (N : Nat) (hN : pre.length = N) (σ : am_H) (hz : ∀ c k : Nat, N ≤ c → σ c k = 0) (hb : N ≤ 900) : am_Mv yX8_init cX8_init 1 none 1 3 520 [vr N] (pre ++ ((17, 3, [none, none, none]) :: [])) σ (fun sh' σ' => pre ++ ((17, 3, [some (N + 1), some (N + 2), some (N + 3)]) :: [(0, 8, []), (0, 256, []), (0, 256, [])]) = sh' ∧ σ = σ') := by
  refine am_Mv_of (by decide +kernel) (Nat.le_of_ble_eq_true rfl) (fun K X hY hI hret => ?_)
  show am_G K 0 [some (vr N)] [] (pre ++ ((17, 3, [none, none, none]) :: [])) σ
  replace hY : am_Y K 1 (N + 1 + 3) (am_sl pre + 523) := by
    rw [ap_len hN, ap_sl, Nat.add_assoc (am_sl pre)] at hY; exact hY
  refine am_aload_n (x := N) X (by rfl) dX8_init_0 ?_
  refine am_objInit X hY lk_X8_3 (by decide) (Nat.le_of_ble_eq_true rfl) dX8_init_1 ?_
  refine am_aload_n (x := N) X (by rfl) dX8_init_4 ?_
  refine am_bipush X (by decide) dX8_init_5 ?_
  refine mk_newI (n := 8) (U' := [(0, 8, [])]) (M := N + 1) X hY hN rfl rfl (fun k => hz _ k (by omega)) (Nat.le_of_ble_eq_true rfl) (Nat.le_of_ble_eq_true rfl) (by omega) (by decide) dX8_init_7 ?_
  refine mk_putr X (hI rfl) (ci := 7) (k0 := 0) (n := 3) (c1 := N + 1) (rs' := [some (N + 1), none, none]) hN fl_X8_9 rfl rfl rfl (by decide) rfl (by show _ < _; simp only [List.length]; omega) rfl dX8_init_9 ?_
  refine am_aload_n (x := N) X (by rfl) dX8_init_12 ?_
  refine am_sipush X (by decide) dX8_init_13 ?_
  refine mk_newI (n := 256) (U' := [(0, 8, []), (0, 256, [])]) (M := N + 2) X hY hN rfl rfl (fun k => hz _ k (by omega)) (Nat.le_of_ble_eq_true rfl) (Nat.le_of_ble_eq_true rfl) (by omega) (by decide) dX8_init_16 ?_
  refine mk_putr X (hI rfl) (ci := 7) (k0 := 1) (n := 3) (c1 := N + 2) (rs' := [some (N + 1), some (N + 2), none]) hN fl_X8_15 rfl rfl rfl (by decide) rfl (by show _ < _; simp only [List.length]; omega) rfl dX8_init_18 ?_
  refine am_aload_n (x := N) X (by rfl) dX8_init_21 ?_
  refine am_sipush X (by decide) dX8_init_22 ?_
  refine mk_newI (n := 256) (U' := [(0, 8, []), (0, 256, []), (0, 256, [])]) (M := N + 3) X hY hN rfl rfl (fun k => hz _ k (by omega)) (Nat.le_of_ble_eq_true rfl) (Nat.le_of_ble_eq_true rfl) (by omega) (by decide) dX8_init_25 ?_
  refine mk_putr X (hI rfl) (ci := 7) (k0 := 2) (n := 3) (c1 := N + 3) (rs' := [some (N + 1), some (N + 2), some (N + 3)]) hN fl_X8_18 rfl rfl rfl (by decide) rfl (by show _ < _; simp only [List.length]; omega) rfl dX8_init_27 ?_
  exact hret _ _ _ _ dX8_init_30 (by rw [ap_len hN, ap_len hN]; rfl) (by rw [ap_sl, ap_sl, Nat.add_assoc]; rfl) (⟨rfl, rfl⟩)

set_option maxHeartbeats 4000000 in
set_option maxRecDepth 100000 in
theorem m_X0_init (pre : List am_S) (N : Nat) (hN : pre.length = N) (σ : am_H) (hz : ∀ c k : Nat, N ≤ c → σ c k = 0) (hb : N ≤ 900) : am_Mv yX0_init cX0_init 1 none 1 2 74 [vr N] (pre ++ ((10, 5, [none, none, none, none, none]) :: [])) σ (fun sh' σ' => pre ++ ((10, 5, [some (N + 1), some (N + 2), none, none, none]) :: [(0, 50, []), (0, 24, [])]) = sh' ∧ σ = σ') := by
  refine am_Mv_of (by decide +kernel) (Nat.le_of_ble_eq_true rfl) (fun K X hY hI hret => ?_)
  show am_G K 0 [some (vr N)] [] (pre ++ ((10, 5, [none, none, none, none, none]) :: [])) σ
  replace hY : am_Y K 1 (N + 1 + 2) (am_sl pre + 79) := by
    rw [ap_len hN, ap_sl, Nat.add_assoc (am_sl pre)] at hY; exact hY
  refine am_aload_n (x := N) X (by rfl) dX0_init_0 ?_
  refine am_objInit X hY lk_X0_3 (by decide) (Nat.le_of_ble_eq_true rfl) dX0_init_1 ?_
  refine am_aload_n (x := N) X (by rfl) dX0_init_4 ?_
  refine am_bipush X (by decide) dX0_init_5 ?_
  refine mk_newI (n := 50) (U' := [(0, 50, [])]) (M := N + 1) X hY hN rfl rfl (fun k => hz _ k (by omega)) (Nat.le_of_ble_eq_true rfl) (Nat.le_of_ble_eq_true rfl) (by omega) (by decide) dX0_init_7 ?_
  refine mk_putr X (hI rfl) (ci := 0) (k0 := 0) (n := 5) (c1 := N + 1) (rs' := [some (N + 1), none, none, none, none]) hN fl_X0_9 rfl rfl rfl (by decide) rfl (by show _ < _; simp only [List.length]; omega) rfl dX0_init_9 ?_
  refine am_aload_n (x := N) X (by rfl) dX0_init_12 ?_
  refine am_bipush X (by decide) dX0_init_13 ?_
  refine mk_newI (n := 24) (U' := [(0, 50, []), (0, 24, [])]) (M := N + 2) X hY hN rfl rfl (fun k => hz _ k (by omega)) (Nat.le_of_ble_eq_true rfl) (Nat.le_of_ble_eq_true rfl) (by omega) (by decide) dX0_init_15 ?_
  refine mk_putr X (hI rfl) (ci := 0) (k0 := 1) (n := 5) (c1 := N + 2) (rs' := [some (N + 1), some (N + 2), none, none, none]) hN fl_X0_15 rfl rfl rfl (by decide) rfl (by show _ < _; simp only [List.length]; omega) rfl dX0_init_17 ?_
  exact hret _ _ _ _ dX0_init_20 (by rw [ap_len hN, ap_len hN]; rfl) (by rw [ap_sl, ap_sl, Nat.add_assoc]; rfl) (⟨rfl, rfl⟩)

set_option maxHeartbeats 4000000 in
set_option maxRecDepth 100000 in
theorem m_X7_init (pre : List am_S) (N : Nat) (hN : pre.length = N) (σ : am_H) (hz : ∀ c k : Nat, N ≤ c → σ c k = 0) (hb : N ≤ 900) : am_Mv yX7_init cX7_init 1 none 1 1 60 [vr N] (pre ++ ((16, 4, [none, none, none, none]) :: [])) σ (fun sh' σ' => pre ++ ((16, 4, [some (N + 1), none, none, none]) :: [(1, 60, [])]) = sh' ∧ mk_E7 N σ = σ') := by
  refine am_Mv_of (by decide +kernel) (Nat.le_of_ble_eq_true rfl) (fun K X hY hI hret => ?_)
  show am_G K 0 [some (vr N)] [] (pre ++ ((16, 4, [none, none, none, none]) :: [])) σ
  replace hY : am_Y K 1 (N + 1 + 1) (am_sl pre + 64) := by
    rw [ap_len hN, ap_sl, Nat.add_assoc (am_sl pre)] at hY; exact hY
  refine am_aload_n (x := N) X (by rfl) dX7_init_0 ?_
  refine am_objInit X hY lk_X7_3 (by decide) (Nat.le_of_ble_eq_true rfl) dX7_init_1 ?_
  refine am_aload_n (x := N) X (by rfl) dX7_init_4 ?_
  refine am_bipush X (by decide) dX7_init_5 ?_
  refine mk_newL (n := 60) (U' := [(1, 60, [])]) (M := N + 1) X hY hN rfl rfl (fun k => hz _ k (by omega)) (Nat.le_of_ble_eq_true rfl) (Nat.le_of_ble_eq_true rfl) (by omega) (by decide) dX7_init_7 ?_
  refine mk_putr X (hI rfl) (ci := 6) (k0 := 0) (n := 4) (c1 := N + 1) (rs' := [some (N + 1), none, none, none]) hN fl_X7_9 rfl rfl rfl (by decide) rfl (by show _ < _; simp only [List.length]; omega) rfl dX7_init_9 ?_
  refine am_aload_n (x := N) X (by rfl) dX7_init_12 ?_
  refine am_ic X (by decide) dX7_init_13 ?_
  refine am_puti X N fl_X7_15 rfl rfl (ap_0 hN) (by decide) dX7_init_14 ?_
  refine am_aload_n (x := N) X (by rfl) dX7_init_17 ?_
  refine am_ic X (by decide) dX7_init_18 ?_
  refine am_puti X N fl_X7_19 rfl rfl (ap_0 hN) (by decide) dX7_init_19 ?_
  exact hret _ _ _ _ dX7_init_22 (by rw [ap_len hN, ap_len hN]; rfl) (by rw [ap_sl, ap_sl, Nat.add_assoc]; rfl) (⟨rfl, rfl⟩)
