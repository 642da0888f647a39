/-! the class's constructor -/
def mk_Z : am_H := fun _ _ => 0
def mk_S9 : am_H := (mk_E7 61 (mk_E7 59 (mk_E7 57 (mk_E7 55 (mk_E7 53 (mk_E7 51 (mk_E2 35 (mk_E2 22 (mk_E6 1 mk_Z)))))))))
def U9_0 : List am_S := []
def U9_1 : List am_S := U9_0 ++ [(15, 5, [none, none, none, none, none])]
def U9_2 : List am_S := U9_0 ++ [(15, 5, [some 2, some 3, none, none, none]), (0, 12, []), (0, 8, [])]
def U9_3 : List am_S := U9_2 ++ [(11, 6, [none, none, none, none, none, none])]
def U9_4 : List am_S := U9_2 ++ [(11, 6, [some 5, some 6, some 7, some 8, none, none]), (0, 40, []), (0, 40, []), (0, 40, []), (0, 40, [])]
def U9_5 : List am_S := U9_4 ++ [(13, 15, [none, none, none, none, none, none, none, none, none, none, none, none, none, none, none])]
def U9_6 : List am_S := U9_4 ++ [(13, 15, [some 10, some 11, some 12, some 13, some 14, some 15, none, none, none, none, none, none, none, none, none]), (0, 120, []), (0, 121, []), (0, 121, []), (0, 120, []), (0, 121, []), (0, 6, [])]
def U9_7 : List am_S := U9_6 ++ [(14, 6, [none, none, none, none, none, none])]
def U9_8 : List am_S := U9_6 ++ [(14, 6, [some 17, some 18, some 19, some 20, some 21, none]), (0, 20, []), (0, 20, []), (0, 20, []), (0, 20, []), (0, 20, [])]
def U9_9 : List am_S := U9_8 ++ [(12, 8, [none, none, none, none, none, none, none, none])]
def U9_10 : List am_S := U9_8 ++ [(12, 8, [some 23, some 24, some 25, some 26, some 27, some 28, none, none]), (0, 30, []), (0, 30, []), (2, 30, []), (0, 384, []), (0, 384, []), (0, 8, [])]
def U9_11 : List am_S := U9_10 ++ [(14, 6, [none, none, none, none, none, none])]
def U9_12 : List am_S := U9_10 ++ [(14, 6, [some 30, some 31, some 32, some 33, some 34, none]), (0, 20, []), (0, 20, []), (0, 20, []), (0, 20, []), (0, 20, [])]
def U9_13 : List am_S := U9_12 ++ [(12, 8, [none, none, none, none, none, none, none, none])]
def U9_14 : List am_S := U9_12 ++ [(12, 8, [some 36, some 37, some 38, some 39, some 40, some 41, none, none]), (0, 30, []), (0, 30, []), (2, 30, []), (0, 384, []), (0, 384, []), (0, 8, [])]
def U9_15 : List am_S := U9_14 ++ [(17, 3, [none, none, none])]
def U9_16 : List am_S := U9_14 ++ [(17, 3, [some 43, some 44, some 45]), (0, 8, []), (0, 256, []), (0, 256, [])]
def U9_17 : List am_S := U9_16 ++ [(10, 5, [none, none, none, none, none])]
def U9_18 : List am_S := U9_16 ++ [(10, 5, [some 47, some 48, none, none, none]), (0, 50, []), (0, 24, [])]
def U9_19 : List am_S := U9_18 ++ [(3, 6, [none, none, none, none, none, none])]
def U9_20 : List am_S := U9_19 ++ [(0, 100, [])]
def U9_21 : List am_S := U9_20 ++ [(16, 4, [none, none, none, none])]
def U9_22 : List am_S := U9_20 ++ [(16, 4, [some 52, none, none, none]), (1, 60, [])]
def U9_23 : List am_S := U9_22.set 48 (3, 6, [some 51, none, none, none, none, none])
def U9_24 : List am_S := U9_23 ++ [(16, 4, [none, none, none, none])]
def U9_25 : List am_S := U9_23 ++ [(16, 4, [some 54, none, none, none]), (1, 60, [])]
def U9_26 : List am_S := U9_25.set 48 (3, 6, [some 51, some 53, none, none, none, none])
def U9_27 : List am_S := U9_26 ++ [(16, 4, [none, none, none, none])]
def U9_28 : List am_S := U9_26 ++ [(16, 4, [some 56, none, none, none]), (1, 60, [])]
def U9_29 : List am_S := U9_28.set 48 (3, 6, [some 51, some 53, some 55, none, none, none])
def U9_30 : List am_S := U9_29 ++ [(16, 4, [none, none, none, none])]
def U9_31 : List am_S := U9_29 ++ [(16, 4, [some 58, none, none, none]), (1, 60, [])]
def U9_32 : List am_S := U9_31.set 48 (3, 6, [some 51, some 53, some 55, some 57, none, none])
def U9_33 : List am_S := U9_32 ++ [(16, 4, [none, none, none, none])]
def U9_34 : List am_S := U9_32 ++ [(16, 4, [some 60, none, none, none]), (1, 60, [])]
def U9_35 : List am_S := U9_34.set 48 (3, 6, [some 51, some 53, some 55, some 57, some 59, none])
def U9_36 : List am_S := U9_35 ++ [(16, 4, [none, none, none, none])]
def U9_37 : List am_S := U9_35 ++ [(16, 4, [some 62, none, none, none]), (1, 60, [])]
def U9_38 : List am_S := U9_37.set 48 (3, 6, [some 51, some 53, some 55, some 57, some 59, some 61])
set_option maxHeartbeats 4000000 in
set_option maxRecDepth 100000 in
theorem m_X9_init  : am_Mv yX9_init cX9_init 2 none 2 62 3867 [vr 0] (([] : List am_S) ++ ((18, 12, [none, none, none, none, none, none, none, none, none, none, none, none]) :: U9_0)) mk_Z (fun sh' σ' => SH.take 63 = sh' ∧ mk_S9 = σ') := by
  refine am_Mv_of (by decide +kernel) (Nat.le_of_ble_eq_true rfl) (fun K X hY hI hret => ?_)
  show am_G K 0 [some (vr 0), none] [] (([] : List am_S) ++ ((18, 12, [none, none, none, none, none, none, none, none, none, none, none, none]) :: U9_0)) mk_Z
  have hN : ([] : List am_S).length = 0 := rfl
  replace hY : am_Y K 2 (0 + 1 + 62) (am_sl ([] : List am_S) + 3879) := hY
  refine am_aload_n (x := 0) X (by rfl) dX9_init_0 ?_
  refine am_objInit X hY lk_X9_1 (by decide) (Nat.le_of_ble_eq_true rfl) dX9_init_1 ?_
  refine am_aload_n (x := 0) X (by rfl) dX9_init_4 ?_
  refine mk_newO (ci := 5) (n := 5) (U' := U9_1) (M := 1) X (by rfl) kl_X9_7 nw_X6 in_X6 hY hN rfl rfl (fun k => rfl) (Nat.le_of_ble_eq_true rfl) (Nat.le_of_ble_eq_true rfl) (by omega) dX9_init_5 ?_
  refine am_dup X (Nat.ne_of_beq_eq_false rfl) dX9_init_8 ?_
  refine am_callIv (vs := []) X hY lk_X9_9 mf_X6_init (m_X6_init (([] : List am_S) ++ ((18, 12, [none, none, none, none, none, none, none, none, none, none, none, none]) :: U9_0)) 1 rfl mk_Z (fun c k hc => rfl) (by omega)) (by decide) (by decide) (Nat.le_of_ble_eq_true rfl) (Nat.le_of_ble_eq_true rfl) rfl rfl (Nat.le_of_ble_eq_true rfl) dX9_init_9 (fun sh9 σ9 hp9 => ?_)
  obtain ⟨rfl, rfl⟩ := hp9
  show am_G K 12 [some (vr 0), none] [vr 1, vr 0] (([] : List am_S) ++ ((18, 12, [none, none, none, none, none, none, none, none, none, none, none, none]) :: U9_2)) (mk_E6 1 mk_Z)
  refine mk_putr X (hI rfl) (ci := 8) (k0 := 0) (n := 12) (c1 := 1) (rs' := [some 1, none, none, none, none, none, none, none, none, none, none, none]) hN fl_X9_10 rfl rfl rfl (by decide) rfl (Nat.le_of_ble_eq_true rfl) rfl dX9_init_12 ?_
  refine am_aload_n (x := 0) X (by rfl) dX9_init_15 ?_
  refine mk_newO (ci := 1) (n := 6) (U' := U9_3) (M := 4) X (by rfl) kl_X9_16 nw_X1 in_X1 hY hN rfl rfl (fun k => (mk_E6_k (by omega)).trans (rfl)) (Nat.le_of_ble_eq_true rfl) (Nat.le_of_ble_eq_true rfl) (by omega) dX9_init_16 ?_
  refine am_dup X (Nat.ne_of_beq_eq_false rfl) dX9_init_19 ?_
  refine am_callINv (vs := []) X hY lk_X9_18 mf_X1_init (m_X1_init (([] : List am_S) ++ ((18, 12, [some 1, none, none, none, none, none, none, none, none, none, none, none]) :: U9_2)) 4 rfl (mk_E6 1 mk_Z) (fun c k hc => (mk_E6_k (by omega)).trans (rfl)) (by omega)) (by decide) (by decide) (Nat.le_of_ble_eq_true rfl) (Nat.le_of_ble_eq_true rfl) rfl rfl (Nat.le_of_ble_eq_true rfl) dX9_init_20 (fun sh20 σ20 hp20 => ?_)
  obtain ⟨rfl, rfl⟩ := hp20
  show am_G K 23 [some (vr 0), none] [vr 4, vr 0] (([] : List am_S) ++ ((18, 12, [some 1, none, none, none, none, none, none, none, none, none, none, none]) :: U9_4)) (mk_E6 1 mk_Z)
  refine mk_putr X (hI rfl) (ci := 8) (k0 := 1) (n := 12) (c1 := 4) (rs' := [some 1, some 4, none, none, none, none, none, none, none, none, none, none]) hN fl_X9_19 rfl rfl rfl (by decide) rfl (Nat.le_of_ble_eq_true rfl) rfl dX9_init_23 ?_
  refine am_aload_n (x := 0) X (by rfl) dX9_init_26 ?_
  refine mk_newO (ci := 3) (n := 15) (U' := U9_5) (M := 9) X (by rfl) kl_X9_23 nw_X3 in_X3 hY hN rfl rfl (fun k => (mk_E6_k (by omega)).trans (rfl)) (Nat.le_of_ble_eq_true rfl) (Nat.le_of_ble_eq_true rfl) (by omega) dX9_init_27 ?_
  refine am_dup X (Nat.ne_of_beq_eq_false rfl) dX9_init_30 ?_
  refine am_callINv (vs := []) X hY lk_X9_25 mf_X3_init (m_X3_init (([] : List am_S) ++ ((18, 12, [some 1, some 4, none, none, none, none, none, none, none, none, none, none]) :: U9_4)) 9 rfl (mk_E6 1 mk_Z) (fun c k hc => (mk_E6_k (by omega)).trans (rfl)) (by omega)) (by decide) (by decide) (Nat.le_of_ble_eq_true rfl) (Nat.le_of_ble_eq_true rfl) rfl rfl (Nat.le_of_ble_eq_true rfl) dX9_init_31 (fun sh31 σ31 hp31 => ?_)
  obtain ⟨rfl, rfl⟩ := hp31
  show am_G K 34 [some (vr 0), none] [vr 9, vr 0] (([] : List am_S) ++ ((18, 12, [some 1, some 4, none, none, none, none, none, none, none, none, none, none]) :: U9_6)) (mk_E6 1 mk_Z)
  refine mk_putr X (hI rfl) (ci := 8) (k0 := 2) (n := 12) (c1 := 9) (rs' := [some 1, some 4, some 9, none, none, none, none, none, none, none, none, none]) hN fl_X9_26 rfl rfl rfl (by decide) rfl (Nat.le_of_ble_eq_true rfl) rfl dX9_init_34 ?_
  refine am_aload_n (x := 0) X (by rfl) dX9_init_37 ?_
  refine mk_newO (ci := 4) (n := 6) (U' := U9_7) (M := 16) X (by rfl) kl_X9_30 nw_X4 in_X4 hY hN rfl rfl (fun k => (mk_E6_k (by omega)).trans (rfl)) (Nat.le_of_ble_eq_true rfl) (Nat.le_of_ble_eq_true rfl) (by omega) dX9_init_38 ?_
  refine am_dup X (Nat.ne_of_beq_eq_false rfl) dX9_init_41 ?_
  refine am_callINv (vs := []) X hY lk_X9_32 mf_X4_init (m_X4_init (([] : List am_S) ++ ((18, 12, [some 1, some 4, some 9, none, none, none, none, none, none, none, none, none]) :: U9_6)) 16 rfl (mk_E6 1 mk_Z) (fun c k hc => (mk_E6_k (by omega)).trans (rfl)) (by omega)) (by decide) (by decide) (Nat.le_of_ble_eq_true rfl) (Nat.le_of_ble_eq_true rfl) rfl rfl (Nat.le_of_ble_eq_true rfl) dX9_init_42 (fun sh42 σ42 hp42 => ?_)
  obtain ⟨rfl, rfl⟩ := hp42
  show am_G K 45 [some (vr 0), none] [vr 16, vr 0] (([] : List am_S) ++ ((18, 12, [some 1, some 4, some 9, none, none, none, none, none, none, none, none, none]) :: U9_8)) (mk_E6 1 mk_Z)
  refine mk_putr X (hI rfl) (ci := 8) (k0 := 3) (n := 12) (c1 := 16) (rs' := [some 1, some 4, some 9, some 16, none, none, none, none, none, none, none, none]) hN fl_X9_33 rfl rfl rfl (by decide) rfl (Nat.le_of_ble_eq_true rfl) rfl dX9_init_45 ?_
  refine am_aload_n (x := 0) X (by rfl) dX9_init_48 ?_
  refine mk_newO (ci := 2) (n := 8) (U' := U9_9) (M := 22) X (by rfl) kl_X9_37 nw_X2 in_X2 hY hN rfl rfl (fun k => (mk_E6_k (by omega)).trans (rfl)) (Nat.le_of_ble_eq_true rfl) (Nat.le_of_ble_eq_true rfl) (by omega) dX9_init_49 ?_
  refine am_dup X (Nat.ne_of_beq_eq_false rfl) dX9_init_52 ?_
  refine am_callIv (vs := []) X hY lk_X9_39 mf_X2_init (m_X2_init (([] : List am_S) ++ ((18, 12, [some 1, some 4, some 9, some 16, none, none, none, none, none, none, none, none]) :: U9_8)) 22 rfl (mk_E6 1 mk_Z) (fun c k hc => (mk_E6_k (by omega)).trans (rfl)) (by omega)) (by decide) (by decide) (Nat.le_of_ble_eq_true rfl) (Nat.le_of_ble_eq_true rfl) rfl rfl (Nat.le_of_ble_eq_true rfl) dX9_init_53 (fun sh53 σ53 hp53 => ?_)
  obtain ⟨rfl, rfl⟩ := hp53
  show am_G K 56 [some (vr 0), none] [vr 22, vr 0] (([] : List am_S) ++ ((18, 12, [some 1, some 4, some 9, some 16, none, none, none, none, none, none, none, none]) :: U9_10)) (mk_E2 22 (mk_E6 1 mk_Z))
  refine mk_putr X (hI rfl) (ci := 8) (k0 := 4) (n := 12) (c1 := 22) (rs' := [some 1, some 4, some 9, some 16, some 22, none, none, none, none, none, none, none]) hN fl_X9_40 rfl rfl rfl (by decide) rfl (Nat.le_of_ble_eq_true rfl) rfl dX9_init_56 ?_
  refine am_aload_n (x := 0) X (by rfl) dX9_init_59 ?_
  refine mk_newO (ci := 4) (n := 6) (U' := U9_11) (M := 29) X (by rfl) kl_X9_30 nw_X4 in_X4 hY hN rfl rfl (fun k => (mk_E2_k (by omega)).trans ((mk_E6_k (by omega)).trans (rfl))) (Nat.le_of_ble_eq_true rfl) (Nat.le_of_ble_eq_true rfl) (by omega) dX9_init_60 ?_
  refine am_dup X (Nat.ne_of_beq_eq_false rfl) dX9_init_63 ?_
  refine am_callINv (vs := []) X hY lk_X9_32 mf_X4_init (m_X4_init (([] : List am_S) ++ ((18, 12, [some 1, some 4, some 9, some 16, some 22, none, none, none, none, none, none, none]) :: U9_10)) 29 rfl (mk_E2 22 (mk_E6 1 mk_Z)) (fun c k hc => (mk_E2_k (by omega)).trans ((mk_E6_k (by omega)).trans (rfl))) (by omega)) (by decide) (by decide) (Nat.le_of_ble_eq_true rfl) (Nat.le_of_ble_eq_true rfl) rfl rfl (Nat.le_of_ble_eq_true rfl) dX9_init_64 (fun sh64 σ64 hp64 => ?_)
  obtain ⟨rfl, rfl⟩ := hp64
  show am_G K 67 [some (vr 0), none] [vr 29, vr 0] (([] : List am_S) ++ ((18, 12, [some 1, some 4, some 9, some 16, some 22, none, none, none, none, none, none, none]) :: U9_12)) (mk_E2 22 (mk_E6 1 mk_Z))
  refine mk_putr X (hI rfl) (ci := 8) (k0 := 5) (n := 12) (c1 := 29) (rs' := [some 1, some 4, some 9, some 16, some 22, some 29, none, none, none, none, none, none]) hN fl_X9_44 rfl rfl rfl (by decide) rfl (Nat.le_of_ble_eq_true rfl) rfl dX9_init_67 ?_
  refine am_aload_n (x := 0) X (by rfl) dX9_init_70 ?_
  refine mk_newO (ci := 2) (n := 8) (U' := U9_13) (M := 35) X (by rfl) kl_X9_37 nw_X2 in_X2 hY hN rfl rfl (fun k => (mk_E2_k (by omega)).trans ((mk_E6_k (by omega)).trans (rfl))) (Nat.le_of_ble_eq_true rfl) (Nat.le_of_ble_eq_true rfl) (by omega) dX9_init_71 ?_
  refine am_dup X (Nat.ne_of_beq_eq_false rfl) dX9_init_74 ?_
  refine am_callIv (vs := []) X hY lk_X9_39 mf_X2_init (m_X2_init (([] : List am_S) ++ ((18, 12, [some 1, some 4, some 9, some 16, some 22, some 29, none, none, none, none, none, none]) :: U9_12)) 35 rfl (mk_E2 22 (mk_E6 1 mk_Z)) (fun c k hc => (mk_E2_k (by omega)).trans ((mk_E6_k (by omega)).trans (rfl))) (by omega)) (by decide) (by decide) (Nat.le_of_ble_eq_true rfl) (Nat.le_of_ble_eq_true rfl) rfl rfl (Nat.le_of_ble_eq_true rfl) dX9_init_75 (fun sh75 σ75 hp75 => ?_)
  obtain ⟨rfl, rfl⟩ := hp75
  show am_G K 78 [some (vr 0), none] [vr 35, vr 0] (([] : List am_S) ++ ((18, 12, [some 1, some 4, some 9, some 16, some 22, some 29, none, none, none, none, none, none]) :: U9_14)) (mk_E2 35 (mk_E2 22 (mk_E6 1 mk_Z)))
  refine mk_putr X (hI rfl) (ci := 8) (k0 := 6) (n := 12) (c1 := 35) (rs' := [some 1, some 4, some 9, some 16, some 22, some 29, some 35, none, none, none, none, none]) hN fl_X9_47 rfl rfl rfl (by decide) rfl (Nat.le_of_ble_eq_true rfl) rfl dX9_init_78 ?_
  refine am_aload_n (x := 0) X (by rfl) dX9_init_81 ?_
  refine mk_newO (ci := 7) (n := 3) (U' := U9_15) (M := 42) X (by rfl) kl_X9_50 nw_X8 in_X8 hY hN rfl rfl (fun k => (mk_E2_k (by omega)).trans ((mk_E2_k (by omega)).trans ((mk_E6_k (by omega)).trans (rfl)))) (Nat.le_of_ble_eq_true rfl) (Nat.le_of_ble_eq_true rfl) (by omega) dX9_init_82 ?_
  refine am_dup X (Nat.ne_of_beq_eq_false rfl) dX9_init_85 ?_
  refine am_callINv (vs := []) X hY lk_X9_52 mf_X8_init (m_X8_init (([] : List am_S) ++ ((18, 12, [some 1, some 4, some 9, some 16, some 22, some 29, some 35, none, none, none, none, none]) :: U9_14)) 42 rfl (mk_E2 35 (mk_E2 22 (mk_E6 1 mk_Z))) (fun c k hc => (mk_E2_k (by omega)).trans ((mk_E2_k (by omega)).trans ((mk_E6_k (by omega)).trans (rfl)))) (by omega)) (by decide) (by decide) (Nat.le_of_ble_eq_true rfl) (Nat.le_of_ble_eq_true rfl) rfl rfl (Nat.le_of_ble_eq_true rfl) dX9_init_86 (fun sh86 σ86 hp86 => ?_)
  obtain ⟨rfl, rfl⟩ := hp86
  show am_G K 89 [some (vr 0), none] [vr 42, vr 0] (([] : List am_S) ++ ((18, 12, [some 1, some 4, some 9, some 16, some 22, some 29, some 35, none, none, none, none, none]) :: U9_16)) (mk_E2 35 (mk_E2 22 (mk_E6 1 mk_Z)))
  refine mk_putr X (hI rfl) (ci := 8) (k0 := 7) (n := 12) (c1 := 42) (rs' := [some 1, some 4, some 9, some 16, some 22, some 29, some 35, some 42, none, none, none, none]) hN fl_X9_53 rfl rfl rfl (by decide) rfl (Nat.le_of_ble_eq_true rfl) rfl dX9_init_89 ?_
  refine am_aload_n (x := 0) X (by rfl) dX9_init_92 ?_
  refine mk_newO (ci := 0) (n := 5) (U' := U9_17) (M := 46) X (by rfl) kl_X9_57 nw_X0 in_X0 hY hN rfl rfl (fun k => (mk_E2_k (by omega)).trans ((mk_E2_k (by omega)).trans ((mk_E6_k (by omega)).trans (rfl)))) (Nat.le_of_ble_eq_true rfl) (Nat.le_of_ble_eq_true rfl) (by omega) dX9_init_93 ?_
  refine am_dup X (Nat.ne_of_beq_eq_false rfl) dX9_init_96 ?_
  refine am_callINv (vs := []) X hY lk_X9_59 mf_X0_init (m_X0_init (([] : List am_S) ++ ((18, 12, [some 1, some 4, some 9, some 16, some 22, some 29, some 35, some 42, none, none, none, none]) :: U9_16)) 46 rfl (mk_E2 35 (mk_E2 22 (mk_E6 1 mk_Z))) (fun c k hc => (mk_E2_k (by omega)).trans ((mk_E2_k (by omega)).trans ((mk_E6_k (by omega)).trans (rfl)))) (by omega)) (by decide) (by decide) (Nat.le_of_ble_eq_true rfl) (Nat.le_of_ble_eq_true rfl) rfl rfl (Nat.le_of_ble_eq_true rfl) dX9_init_97 (fun sh97 σ97 hp97 => ?_)
  obtain ⟨rfl, rfl⟩ := hp97
  show am_G K 100 [some (vr 0), none] [vr 46, vr 0] (([] : List am_S) ++ ((18, 12, [some 1, some 4, some 9, some 16, some 22, some 29, some 35, some 42, none, none, none, none]) :: U9_18)) (mk_E2 35 (mk_E2 22 (mk_E6 1 mk_Z)))
  refine mk_putr X (hI rfl) (ci := 8) (k0 := 8) (n := 12) (c1 := 46) (rs' := [some 1, some 4, some 9, some 16, some 22, some 29, some 35, some 42, some 46, none, none, none]) hN fl_X9_60 rfl rfl rfl (by decide) rfl (Nat.le_of_ble_eq_true rfl) rfl dX9_init_100 ?_
  refine am_aload_n (x := 0) X (by rfl) dX9_init_103 ?_
  refine am_bipush X (by decide) dX9_init_104 ?_
  refine mk_newQ (n := 6) (U' := U9_19) (M := 49) X kl_X9_64 hY hN rfl rfl (fun k => (mk_E2_k (by omega)).trans ((mk_E2_k (by omega)).trans ((mk_E6_k (by omega)).trans (rfl)))) (Nat.le_of_ble_eq_true rfl) (Nat.le_of_ble_eq_true rfl) (by omega) (by decide) dX9_init_106 ?_
  refine mk_putr X (hI rfl) (ci := 8) (k0 := 9) (n := 12) (c1 := 49) (rs' := [some 1, some 4, some 9, some 16, some 22, some 29, some 35, some 42, some 46, some 49, none, none]) hN fl_X9_66 rfl rfl rfl (by decide) rfl (Nat.le_of_ble_eq_true rfl) rfl dX9_init_109 ?_
  refine am_aload_n (x := 0) X (by rfl) dX9_init_112 ?_
  refine am_bipush X (by decide) dX9_init_113 ?_
  refine mk_newI (n := 100) (U' := U9_20) (M := 50) X hY hN rfl rfl (fun k => (mk_E2_k (by omega)).trans ((mk_E2_k (by omega)).trans ((mk_E6_k (by omega)).trans (rfl)))) (Nat.le_of_ble_eq_true rfl) (Nat.le_of_ble_eq_true rfl) (by omega) (by decide) dX9_init_115 ?_
  refine mk_putr X (hI rfl) (ci := 8) (k0 := 10) (n := 12) (c1 := 50) (rs' := [some 1, some 4, some 9, some 16, some 22, some 29, some 35, some 42, some 46, some 49, some 50, none]) hN fl_X9_70 rfl rfl rfl (by decide) rfl (Nat.le_of_ble_eq_true rfl) rfl dX9_init_117 ?_
  refine am_ic X (by decide) dX9_init_120 ?_
  refine am_istore_n (i := 1) (L' := [some (vr 0), some (vi 0)]) X rfl (Nat.le_of_ble_eq_true rfl) (by rfl) dX9_init_121 ?_
  refine am_iload_n (x := 0) X (by rfl) dX9_init_122 ?_
  refine am_bipush X (by decide) dX9_init_123 ?_
  refine am_icmp_ge (tgt := 147) X dX9_init_125 (by decide) (fun h => absurd h (by decide)) (fun _ => ?_)
  refine am_aload_n (x := 0) X (by rfl) dX9_init_128 ?_
  refine am_getr (c1 := 49) X 0 fl_X9_66 (by decide) (ap_0 hN) (by decide) (by rfl) dX9_init_129 ?_
  refine am_iload_n (x := 0) X (by rfl) dX9_init_132 ?_
  refine mk_newO (ci := 6) (n := 4) (U' := U9_21) (M := 51) X (by rfl) kl_X9_64 nw_X7 in_X7 hY hN rfl rfl (fun k => (mk_E2_k (by omega)).trans ((mk_E2_k (by omega)).trans ((mk_E6_k (by omega)).trans (rfl)))) (Nat.le_of_ble_eq_true rfl) (Nat.le_of_ble_eq_true rfl) (by omega) dX9_init_133 ?_
  refine am_dup X (Nat.ne_of_beq_eq_false rfl) dX9_init_136 ?_
  refine am_callINv (vs := []) X hY lk_X9_74 mf_X7_init (m_X7_init (([] : List am_S) ++ ((18, 12, [some 1, some 4, some 9, some 16, some 22, some 29, some 35, some 42, some 46, some 49, some 50, none]) :: U9_20)) 51 rfl (mk_E2 35 (mk_E2 22 (mk_E6 1 mk_Z))) (fun c k hc => (mk_E2_k (by omega)).trans ((mk_E2_k (by omega)).trans ((mk_E6_k (by omega)).trans (rfl)))) (by omega)) (by decide) (by decide) (Nat.le_of_ble_eq_true rfl) (Nat.le_of_ble_eq_true rfl) rfl rfl (Nat.le_of_ble_eq_true rfl) dX9_init_137 (fun sh137 σ137 hp137 => ?_)
  obtain ⟨rfl, rfl⟩ := hp137
  show am_G K 140 [some (vr 0), some (vi 0)] [vr 51, vi 0, vr 49] (([] : List am_S) ++ ((18, 12, [some 1, some 4, some 9, some 16, some 22, some 29, some 35, some 42, some 46, some 49, some 50, none]) :: U9_22)) (mk_E7 51 (mk_E2 35 (mk_E2 22 (mk_E6 1 mk_Z))))
  refine am_aast (n := 6) (nf := 4) (sh' := (([] : List am_S) ++ ((18, 12, [some 1, some 4, some 9, some 16, some 22, some 29, some 35, some 42, some 46, some 49, some 50, none]) :: U9_23))) X 49 ((ap_j hN 48).trans rfl) ((ap_j hN 50).trans rfl) (by decide) (by decide) rfl rfl dX9_init_140 ?_
  refine am_inc (x := 0) (v := 1) (L' := [some (vr 0), some (vi 1)]) X (by rfl) (by omega) (by omega) (by rfl) dX9_init_141 ?_
  refine am_goto (tgt := 122) X dX9_init_144 (by decide) ?_
  refine am_iload_n (x := 1) X (by rfl) dX9_init_122 ?_
  refine am_bipush X (by decide) dX9_init_123 ?_
  refine am_icmp_ge (tgt := 147) X dX9_init_125 (by decide) (fun h => absurd h (by decide)) (fun _ => ?_)
  refine am_aload_n (x := 0) X (by rfl) dX9_init_128 ?_
  refine am_getr (c1 := 49) X 0 fl_X9_66 (by decide) (ap_0 hN) (by decide) (by rfl) dX9_init_129 ?_
  refine am_iload_n (x := 1) X (by rfl) dX9_init_132 ?_
  refine mk_newO (ci := 6) (n := 4) (U' := U9_24) (M := 53) X (by rfl) kl_X9_64 nw_X7 in_X7 hY hN rfl rfl (fun k => (mk_E7_k (by omega)).trans ((mk_E2_k (by omega)).trans ((mk_E2_k (by omega)).trans ((mk_E6_k (by omega)).trans (rfl))))) (Nat.le_of_ble_eq_true rfl) (Nat.le_of_ble_eq_true rfl) (by omega) dX9_init_133 ?_
  refine am_dup X (Nat.ne_of_beq_eq_false rfl) dX9_init_136 ?_
  refine am_callINv (vs := []) X hY lk_X9_74 mf_X7_init (m_X7_init (([] : List am_S) ++ ((18, 12, [some 1, some 4, some 9, some 16, some 22, some 29, some 35, some 42, some 46, some 49, some 50, none]) :: U9_23)) 53 rfl (mk_E7 51 (mk_E2 35 (mk_E2 22 (mk_E6 1 mk_Z)))) (fun c k hc => (mk_E7_k (by omega)).trans ((mk_E2_k (by omega)).trans ((mk_E2_k (by omega)).trans ((mk_E6_k (by omega)).trans (rfl))))) (by omega)) (by decide) (by decide) (Nat.le_of_ble_eq_true rfl) (Nat.le_of_ble_eq_true rfl) rfl rfl (Nat.le_of_ble_eq_true rfl) dX9_init_137 (fun sh137 σ137 hp137 => ?_)
  obtain ⟨rfl, rfl⟩ := hp137
  show am_G K 140 [some (vr 0), some (vi 1)] [vr 53, vi 1, vr 49] (([] : List am_S) ++ ((18, 12, [some 1, some 4, some 9, some 16, some 22, some 29, some 35, some 42, some 46, some 49, some 50, none]) :: U9_25)) (mk_E7 53 (mk_E7 51 (mk_E2 35 (mk_E2 22 (mk_E6 1 mk_Z)))))
  refine am_aast (n := 6) (nf := 4) (sh' := (([] : List am_S) ++ ((18, 12, [some 1, some 4, some 9, some 16, some 22, some 29, some 35, some 42, some 46, some 49, some 50, none]) :: U9_26))) X 49 ((ap_j hN 48).trans rfl) ((ap_j hN 52).trans rfl) (by decide) (by decide) rfl rfl dX9_init_140 ?_
  refine am_inc (x := 1) (v := 2) (L' := [some (vr 0), some (vi 2)]) X (by rfl) (by omega) (by omega) (by rfl) dX9_init_141 ?_
  refine am_goto (tgt := 122) X dX9_init_144 (by decide) ?_
  refine am_iload_n (x := 2) X (by rfl) dX9_init_122 ?_
  refine am_bipush X (by decide) dX9_init_123 ?_
  refine am_icmp_ge (tgt := 147) X dX9_init_125 (by decide) (fun h => absurd h (by decide)) (fun _ => ?_)
  refine am_aload_n (x := 0) X (by rfl) dX9_init_128 ?_
  refine am_getr (c1 := 49) X 0 fl_X9_66 (by decide) (ap_0 hN) (by decide) (by rfl) dX9_init_129 ?_
  refine am_iload_n (x := 2) X (by rfl) dX9_init_132 ?_
  refine mk_newO (ci := 6) (n := 4) (U' := U9_27) (M := 55) X (by rfl) kl_X9_64 nw_X7 in_X7 hY hN rfl rfl (fun k => (mk_E7_k (by omega)).trans ((mk_E7_k (by omega)).trans ((mk_E2_k (by omega)).trans ((mk_E2_k (by omega)).trans ((mk_E6_k (by omega)).trans (rfl)))))) (Nat.le_of_ble_eq_true rfl) (Nat.le_of_ble_eq_true rfl) (by omega) dX9_init_133 ?_
  refine am_dup X (Nat.ne_of_beq_eq_false rfl) dX9_init_136 ?_
  refine am_callINv (vs := []) X hY lk_X9_74 mf_X7_init (m_X7_init (([] : List am_S) ++ ((18, 12, [some 1, some 4, some 9, some 16, some 22, some 29, some 35, some 42, some 46, some 49, some 50, none]) :: U9_26)) 55 rfl (mk_E7 53 (mk_E7 51 (mk_E2 35 (mk_E2 22 (mk_E6 1 mk_Z))))) (fun c k hc => (mk_E7_k (by omega)).trans ((mk_E7_k (by omega)).trans ((mk_E2_k (by omega)).trans ((mk_E2_k (by omega)).trans ((mk_E6_k (by omega)).trans (rfl)))))) (by omega)) (by decide) (by decide) (Nat.le_of_ble_eq_true rfl) (Nat.le_of_ble_eq_true rfl) rfl rfl (Nat.le_of_ble_eq_true rfl) dX9_init_137 (fun sh137 σ137 hp137 => ?_)
  obtain ⟨rfl, rfl⟩ := hp137
  show am_G K 140 [some (vr 0), some (vi 2)] [vr 55, vi 2, vr 49] (([] : List am_S) ++ ((18, 12, [some 1, some 4, some 9, some 16, some 22, some 29, some 35, some 42, some 46, some 49, some 50, none]) :: U9_28)) (mk_E7 55 (mk_E7 53 (mk_E7 51 (mk_E2 35 (mk_E2 22 (mk_E6 1 mk_Z))))))
  refine am_aast (n := 6) (nf := 4) (sh' := (([] : List am_S) ++ ((18, 12, [some 1, some 4, some 9, some 16, some 22, some 29, some 35, some 42, some 46, some 49, some 50, none]) :: U9_29))) X 49 ((ap_j hN 48).trans rfl) ((ap_j hN 54).trans rfl) (by decide) (by decide) rfl rfl dX9_init_140 ?_
  refine am_inc (x := 2) (v := 3) (L' := [some (vr 0), some (vi 3)]) X (by rfl) (by omega) (by omega) (by rfl) dX9_init_141 ?_
  refine am_goto (tgt := 122) X dX9_init_144 (by decide) ?_
  refine am_iload_n (x := 3) X (by rfl) dX9_init_122 ?_
  refine am_bipush X (by decide) dX9_init_123 ?_
  refine am_icmp_ge (tgt := 147) X dX9_init_125 (by decide) (fun h => absurd h (by decide)) (fun _ => ?_)
  refine am_aload_n (x := 0) X (by rfl) dX9_init_128 ?_
  refine am_getr (c1 := 49) X 0 fl_X9_66 (by decide) (ap_0 hN) (by decide) (by rfl) dX9_init_129 ?_
  refine am_iload_n (x := 3) X (by rfl) dX9_init_132 ?_
  refine mk_newO (ci := 6) (n := 4) (U' := U9_30) (M := 57) X (by rfl) kl_X9_64 nw_X7 in_X7 hY hN rfl rfl (fun k => (mk_E7_k (by omega)).trans ((mk_E7_k (by omega)).trans ((mk_E7_k (by omega)).trans ((mk_E2_k (by omega)).trans ((mk_E2_k (by omega)).trans ((mk_E6_k (by omega)).trans (rfl))))))) (Nat.le_of_ble_eq_true rfl) (Nat.le_of_ble_eq_true rfl) (by omega) dX9_init_133 ?_
  refine am_dup X (Nat.ne_of_beq_eq_false rfl) dX9_init_136 ?_
  refine am_callINv (vs := []) X hY lk_X9_74 mf_X7_init (m_X7_init (([] : List am_S) ++ ((18, 12, [some 1, some 4, some 9, some 16, some 22, some 29, some 35, some 42, some 46, some 49, some 50, none]) :: U9_29)) 57 rfl (mk_E7 55 (mk_E7 53 (mk_E7 51 (mk_E2 35 (mk_E2 22 (mk_E6 1 mk_Z)))))) (fun c k hc => (mk_E7_k (by omega)).trans ((mk_E7_k (by omega)).trans ((mk_E7_k (by omega)).trans ((mk_E2_k (by omega)).trans ((mk_E2_k (by omega)).trans ((mk_E6_k (by omega)).trans (rfl))))))) (by omega)) (by decide) (by decide) (Nat.le_of_ble_eq_true rfl) (Nat.le_of_ble_eq_true rfl) rfl rfl (Nat.le_of_ble_eq_true rfl) dX9_init_137 (fun sh137 σ137 hp137 => ?_)
  obtain ⟨rfl, rfl⟩ := hp137
  show am_G K 140 [some (vr 0), some (vi 3)] [vr 57, vi 3, vr 49] (([] : List am_S) ++ ((18, 12, [some 1, some 4, some 9, some 16, some 22, some 29, some 35, some 42, some 46, some 49, some 50, none]) :: U9_31)) (mk_E7 57 (mk_E7 55 (mk_E7 53 (mk_E7 51 (mk_E2 35 (mk_E2 22 (mk_E6 1 mk_Z)))))))
  refine am_aast (n := 6) (nf := 4) (sh' := (([] : List am_S) ++ ((18, 12, [some 1, some 4, some 9, some 16, some 22, some 29, some 35, some 42, some 46, some 49, some 50, none]) :: U9_32))) X 49 ((ap_j hN 48).trans rfl) ((ap_j hN 56).trans rfl) (by decide) (by decide) rfl rfl dX9_init_140 ?_
  refine am_inc (x := 3) (v := 4) (L' := [some (vr 0), some (vi 4)]) X (by rfl) (by omega) (by omega) (by rfl) dX9_init_141 ?_
  refine am_goto (tgt := 122) X dX9_init_144 (by decide) ?_
  refine am_iload_n (x := 4) X (by rfl) dX9_init_122 ?_
  refine am_bipush X (by decide) dX9_init_123 ?_
  refine am_icmp_ge (tgt := 147) X dX9_init_125 (by decide) (fun h => absurd h (by decide)) (fun _ => ?_)
  refine am_aload_n (x := 0) X (by rfl) dX9_init_128 ?_
  refine am_getr (c1 := 49) X 0 fl_X9_66 (by decide) (ap_0 hN) (by decide) (by rfl) dX9_init_129 ?_
  refine am_iload_n (x := 4) X (by rfl) dX9_init_132 ?_
  refine mk_newO (ci := 6) (n := 4) (U' := U9_33) (M := 59) X (by rfl) kl_X9_64 nw_X7 in_X7 hY hN rfl rfl (fun k => (mk_E7_k (by omega)).trans ((mk_E7_k (by omega)).trans ((mk_E7_k (by omega)).trans ((mk_E7_k (by omega)).trans ((mk_E2_k (by omega)).trans ((mk_E2_k (by omega)).trans ((mk_E6_k (by omega)).trans (rfl)))))))) (Nat.le_of_ble_eq_true rfl) (Nat.le_of_ble_eq_true rfl) (by omega) dX9_init_133 ?_
  refine am_dup X (Nat.ne_of_beq_eq_false rfl) dX9_init_136 ?_
  refine am_callINv (vs := []) X hY lk_X9_74 mf_X7_init (m_X7_init (([] : List am_S) ++ ((18, 12, [some 1, some 4, some 9, some 16, some 22, some 29, some 35, some 42, some 46, some 49, some 50, none]) :: U9_32)) 59 rfl (mk_E7 57 (mk_E7 55 (mk_E7 53 (mk_E7 51 (mk_E2 35 (mk_E2 22 (mk_E6 1 mk_Z))))))) (fun c k hc => (mk_E7_k (by omega)).trans ((mk_E7_k (by omega)).trans ((mk_E7_k (by omega)).trans ((mk_E7_k (by omega)).trans ((mk_E2_k (by omega)).trans ((mk_E2_k (by omega)).trans ((mk_E6_k (by omega)).trans (rfl)))))))) (by omega)) (by decide) (by decide) (Nat.le_of_ble_eq_true rfl) (Nat.le_of_ble_eq_true rfl) rfl rfl (Nat.le_of_ble_eq_true rfl) dX9_init_137 (fun sh137 σ137 hp137 => ?_)
  obtain ⟨rfl, rfl⟩ := hp137
  show am_G K 140 [some (vr 0), some (vi 4)] [vr 59, vi 4, vr 49] (([] : List am_S) ++ ((18, 12, [some 1, some 4, some 9, some 16, some 22, some 29, some 35, some 42, some 46, some 49, some 50, none]) :: U9_34)) (mk_E7 59 (mk_E7 57 (mk_E7 55 (mk_E7 53 (mk_E7 51 (mk_E2 35 (mk_E2 22 (mk_E6 1 mk_Z))))))))
  refine am_aast (n := 6) (nf := 4) (sh' := (([] : List am_S) ++ ((18, 12, [some 1, some 4, some 9, some 16, some 22, some 29, some 35, some 42, some 46, some 49, some 50, none]) :: U9_35))) X 49 ((ap_j hN 48).trans rfl) ((ap_j hN 58).trans rfl) (by decide) (by decide) rfl rfl dX9_init_140 ?_
  refine am_inc (x := 4) (v := 5) (L' := [some (vr 0), some (vi 5)]) X (by rfl) (by omega) (by omega) (by rfl) dX9_init_141 ?_
  refine am_goto (tgt := 122) X dX9_init_144 (by decide) ?_
  refine am_iload_n (x := 5) X (by rfl) dX9_init_122 ?_
  refine am_bipush X (by decide) dX9_init_123 ?_
  refine am_icmp_ge (tgt := 147) X dX9_init_125 (by decide) (fun h => absurd h (by decide)) (fun _ => ?_)
  refine am_aload_n (x := 0) X (by rfl) dX9_init_128 ?_
  refine am_getr (c1 := 49) X 0 fl_X9_66 (by decide) (ap_0 hN) (by decide) (by rfl) dX9_init_129 ?_
  refine am_iload_n (x := 5) X (by rfl) dX9_init_132 ?_
  refine mk_newO (ci := 6) (n := 4) (U' := U9_36) (M := 61) X (by rfl) kl_X9_64 nw_X7 in_X7 hY hN rfl rfl (fun k => (mk_E7_k (by omega)).trans ((mk_E7_k (by omega)).trans ((mk_E7_k (by omega)).trans ((mk_E7_k (by omega)).trans ((mk_E7_k (by omega)).trans ((mk_E2_k (by omega)).trans ((mk_E2_k (by omega)).trans ((mk_E6_k (by omega)).trans (rfl))))))))) (Nat.le_of_ble_eq_true rfl) (Nat.le_of_ble_eq_true rfl) (by omega) dX9_init_133 ?_
  refine am_dup X (Nat.ne_of_beq_eq_false rfl) dX9_init_136 ?_
  refine am_callINv (vs := []) X hY lk_X9_74 mf_X7_init (m_X7_init (([] : List am_S) ++ ((18, 12, [some 1, some 4, some 9, some 16, some 22, some 29, some 35, some 42, some 46, some 49, some 50, none]) :: U9_35)) 61 rfl (mk_E7 59 (mk_E7 57 (mk_E7 55 (mk_E7 53 (mk_E7 51 (mk_E2 35 (mk_E2 22 (mk_E6 1 mk_Z)))))))) (fun c k hc => (mk_E7_k (by omega)).trans ((mk_E7_k (by omega)).trans ((mk_E7_k (by omega)).trans ((mk_E7_k (by omega)).trans ((mk_E7_k (by omega)).trans ((mk_E2_k (by omega)).trans ((mk_E2_k (by omega)).trans ((mk_E6_k (by omega)).trans (rfl))))))))) (by omega)) (by decide) (by decide) (Nat.le_of_ble_eq_true rfl) (Nat.le_of_ble_eq_true rfl) rfl rfl (Nat.le_of_ble_eq_true rfl) dX9_init_137 (fun sh137 σ137 hp137 => ?_)
  obtain ⟨rfl, rfl⟩ := hp137
  show am_G K 140 [some (vr 0), some (vi 5)] [vr 61, vi 5, vr 49] (([] : List am_S) ++ ((18, 12, [some 1, some 4, some 9, some 16, some 22, some 29, some 35, some 42, some 46, some 49, some 50, none]) :: U9_37)) (mk_E7 61 (mk_E7 59 (mk_E7 57 (mk_E7 55 (mk_E7 53 (mk_E7 51 (mk_E2 35 (mk_E2 22 (mk_E6 1 mk_Z)))))))))
  refine am_aast (n := 6) (nf := 4) (sh' := (([] : List am_S) ++ ((18, 12, [some 1, some 4, some 9, some 16, some 22, some 29, some 35, some 42, some 46, some 49, some 50, none]) :: U9_38))) X 49 ((ap_j hN 48).trans rfl) ((ap_j hN 60).trans rfl) (by decide) (by decide) rfl rfl dX9_init_140 ?_
  refine am_inc (x := 5) (v := 6) (L' := [some (vr 0), some (vi 6)]) X (by rfl) (by omega) (by omega) (by rfl) dX9_init_141 ?_
  refine am_goto (tgt := 122) X dX9_init_144 (by decide) ?_
  refine am_iload_n (x := 6) X (by rfl) dX9_init_122 ?_
  refine am_bipush X (by decide) dX9_init_123 ?_
  refine am_icmp_ge (tgt := 147) X dX9_init_125 (by decide) (fun _ => ?_) (fun h => absurd h (by decide))
  exact hret _ _ _ _ dX9_init_147 (by decide +kernel) (by decide +kernel) (⟨by decide +kernel, rfl⟩)
