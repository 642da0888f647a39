/-! the law's loop and its start -/
set_option maxHeartbeats 4000000 in
set_option maxRecDepth 100000 in
theorem lw_loop {K : am_K} {n : Nat} {xs : Nat → Int32} (X : am_X K cL_law RL) (hY : am_Y K 2048 600000 7302250) (hXs : am_Xs K n xs) (hn : n ≤ 3072) (hret : ∀ (L : List (Option am_V)) (σ : am_H), am_G K 1329 L [vi 1] SH σ) : ∀ (f : Nat) (i : Int) (σ : am_H), 0 ≤ i → i ≤ n → n - i.toNat = f → RR σ σ → am_G K 18 (lwL i) [] SH σ := by
  intro f
  induction f using Nat.strongRecOn with
  | ind f ih =>
  intro i σ h0 h1 hf hR
  show am_G K 18 [some (vr 1002), some (vr 0), some (vr 63), some (vi i)] [] SH σ
  refine am_iload_n (x := i) X (by rfl) dL_law_18 ?_
  refine am_aload_n (x := 1002) X (by rfl) dL_law_19 ?_
  refine am_slen X hXs (by omega) dL_law_20 ?_
  refine am_bipush X (by decide) dL_law_21 ?_
  refine am_sub (v := (n : Int) - 6) X rfl (by omega) dL_law_23 ?_
  refine am_icmp_gt (tgt := 1328) X dL_law_24 (by decide) (fun h24 => ?_) (fun h24 => ?_)
  · refine am_ic X (by decide) dL_law_1328 ?_
    exact hret _ _
  · have h6 : i + 6 ≤ n := by omega
    have hnext : ∀ σ' : am_H, RR σ' σ' → am_G K 1322 (lwL i) [] SH σ' := fun σ' hR' => by
      show am_G K 1322 [some (vr 1002), some (vr 0), some (vr 63), some (vi i)] [] SH σ'
      refine am_inc (x := i) (v := (i + 6)) (L' := [some (vr 1002), some (vr 0), some (vr 63), some (vi (i + 6))]) X (by rfl) (by omega) (by omega) (by rfl) dL_law_1322 ?_
      refine am_goto (tgt := 18) X dL_law_1325 (by decide) ?_
      exact ih (n - (i + 6).toNat) (by omega) (i + 6) σ' (by omega) h6 rfl hR'
    refine am_aload_n (x := 1002) X (by rfl) dL_law_27 ?_
    refine am_iload_n (x := i) X (by rfl) dL_law_28 ?_
    refine am_sld X hXs (by omega) (by omega) dL_law_29 ?_
    refine am_bipush X (by decide) dL_law_30 ?_
    refine am_iand X dL_law_32 ?_
    refine am_topi (fun y hy => ?_)
    clear hy
    by_cases ho : y < 0 ∨ 38 < y
    · refine am_tableOut (tgt := 1322) X dL_law_33 ho (by decide) ?_
      exact hnext σ hR
    · rcases (show y = 0 ∨ y = 1 ∨ y = 2 ∨ y = 3 ∨ y = 4 ∨ y = 5 ∨ y = 6 ∨ y = 7 ∨ y = 8 ∨ y = 9 ∨ y = 10 ∨ y = 11 ∨ y = 12 ∨ y = 13 ∨ y = 14 ∨ y = 15 ∨ y = 16 ∨ y = 17 ∨ y = 18 ∨ y = 19 ∨ y = 20 ∨ y = 21 ∨ y = 22 ∨ y = 23 ∨ y = 24 ∨ y = 25 ∨ y = 26 ∨ y = 27 ∨ y = 28 ∨ y = 29 ∨ y = 30 ∨ y = 31 ∨ y = 32 ∨ y = 33 ∨ y = 34 ∨ y = 35 ∨ y = 36 ∨ y = 37 ∨ y = 38 by omega) with e | e | e | e | e | e | e | e | e | e | e | e | e | e | e | e | e | e | e | e | e | e | e | e | e | e | e | e | e | e | e | e | e | e | e | e | e | e | e
      · refine am_tableIn (off := 171) (tgt := 204) X dL_law_33 (by omega) (by omega) (by rw [e]; rfl) (by decide) ?_
        exact lw_op_0 X hY hXs hn h0 h6 hR hnext
      · refine am_tableIn (off := 194) (tgt := 227) X dL_law_33 (by omega) (by omega) (by rw [e]; rfl) (by decide) ?_
        exact lw_op_1 X hY hXs hn h0 h6 hR hnext
      · refine am_tableIn (off := 227) (tgt := 260) X dL_law_33 (by omega) (by omega) (by rw [e]; rfl) (by decide) ?_
        exact lw_op_2 X hY hXs hn h0 h6 hR hnext
      · refine am_tableIn (off := 270) (tgt := 303) X dL_law_33 (by omega) (by omega) (by rw [e]; rfl) (by decide) ?_
        exact lw_op_3 X hY hXs hn h0 h6 hR hnext
      · refine am_tableIn (off := 313) (tgt := 346) X dL_law_33 (by omega) (by omega) (by rw [e]; rfl) (by decide) ?_
        exact lw_op_4 X hY hXs hn h0 h6 hR hnext
      · refine am_tableIn (off := 346) (tgt := 379) X dL_law_33 (by omega) (by omega) (by rw [e]; rfl) (by decide) ?_
        exact lw_op_5 X hY hXs hn h0 h6 hR hnext
      · refine am_tableIn (off := 369) (tgt := 402) X dL_law_33 (by omega) (by omega) (by rw [e]; rfl) (by decide) ?_
        exact lw_op_6 X hY hXs hn h0 h6 hR hnext
      · refine am_tableIn (off := 382) (tgt := 415) X dL_law_33 (by omega) (by omega) (by rw [e]; rfl) (by decide) ?_
        exact lw_op_7 X hY hXs hn h0 h6 hR hnext
      · refine am_tableIn (off := 415) (tgt := 448) X dL_law_33 (by omega) (by omega) (by rw [e]; rfl) (by decide) ?_
        exact lw_op_8 X hY hXs hn h0 h6 hR hnext
      · refine am_tableIn (off := 448) (tgt := 481) X dL_law_33 (by omega) (by omega) (by rw [e]; rfl) (by decide) ?_
        exact lw_op_9 X hY hXs hn h0 h6 hR hnext
      · refine am_tableIn (off := 481) (tgt := 514) X dL_law_33 (by omega) (by omega) (by rw [e]; rfl) (by decide) ?_
        exact lw_op_10 X hY hXs hn h0 h6 hR hnext
      · refine am_tableIn (off := 514) (tgt := 547) X dL_law_33 (by omega) (by omega) (by rw [e]; rfl) (by decide) ?_
        exact lw_op_11 X hY hXs hn h0 h6 hR hnext
      · refine am_tableIn (off := 547) (tgt := 580) X dL_law_33 (by omega) (by omega) (by rw [e]; rfl) (by decide) ?_
        exact lw_op_12 X hY hXs hn h0 h6 hR hnext
      · refine am_tableIn (off := 560) (tgt := 593) X dL_law_33 (by omega) (by omega) (by rw [e]; rfl) (by decide) ?_
        exact lw_op_13 X hY hXs hn h0 h6 hR hnext
      · refine am_tableIn (off := 593) (tgt := 626) X dL_law_33 (by omega) (by omega) (by rw [e]; rfl) (by decide) ?_
        exact lw_op_14 X hY hXs hn h0 h6 hR hnext
      · refine am_tableIn (off := 626) (tgt := 659) X dL_law_33 (by omega) (by omega) (by rw [e]; rfl) (by decide) ?_
        exact lw_op_15 X hY hXs hn h0 h6 hR hnext
      · refine am_tableIn (off := 659) (tgt := 692) X dL_law_33 (by omega) (by omega) (by rw [e]; rfl) (by decide) ?_
        exact lw_op_16 X hY hXs hn h0 h6 hR hnext
      · refine am_tableIn (off := 672) (tgt := 705) X dL_law_33 (by omega) (by omega) (by rw [e]; rfl) (by decide) ?_
        exact lw_op_17 X hY hXs hn h0 h6 hR hnext
      · refine am_tableIn (off := 685) (tgt := 718) X dL_law_33 (by omega) (by omega) (by rw [e]; rfl) (by decide) ?_
        exact lw_op_18 X hY hXs hn h0 h6 hR hnext
      · refine am_tableIn (off := 708) (tgt := 741) X dL_law_33 (by omega) (by omega) (by rw [e]; rfl) (by decide) ?_
        exact lw_op_19 X hY hXs hn h0 h6 hR hnext
      · refine am_tableIn (off := 731) (tgt := 764) X dL_law_33 (by omega) (by omega) (by rw [e]; rfl) (by decide) ?_
        exact lw_op_20 X hY hXs hn h0 h6 hR hnext
      · refine am_tableIn (off := 744) (tgt := 777) X dL_law_33 (by omega) (by omega) (by rw [e]; rfl) (by decide) ?_
        exact lw_op_21 X hY hXs hn h0 h6 hR hnext
      · refine am_tableIn (off := 767) (tgt := 800) X dL_law_33 (by omega) (by omega) (by rw [e]; rfl) (by decide) ?_
        exact lw_op_22 X hY hXs hn h0 h6 hR hnext
      · refine am_tableIn (off := 790) (tgt := 823) X dL_law_33 (by omega) (by omega) (by rw [e]; rfl) (by decide) ?_
        exact lw_op_23 X hY hXs hn h0 h6 hR hnext
      · refine am_tableIn (off := 813) (tgt := 846) X dL_law_33 (by omega) (by omega) (by rw [e]; rfl) (by decide) ?_
        exact lw_op_24 X hY hXs hn h0 h6 hR hnext
      · refine am_tableIn (off := 846) (tgt := 879) X dL_law_33 (by omega) (by omega) (by rw [e]; rfl) (by decide) ?_
        exact lw_op_25 X hY hXs hn h0 h6 hR hnext
      · refine am_tableIn (off := 859) (tgt := 892) X dL_law_33 (by omega) (by omega) (by rw [e]; rfl) (by decide) ?_
        exact lw_op_26 X hY hXs hn h0 h6 hR hnext
      · refine am_tableIn (off := 872) (tgt := 905) X dL_law_33 (by omega) (by omega) (by rw [e]; rfl) (by decide) ?_
        exact lw_op_27 X hY hXs hn h0 h6 hR hnext
      · refine am_tableIn (off := 885) (tgt := 918) X dL_law_33 (by omega) (by omega) (by rw [e]; rfl) (by decide) ?_
        exact lw_op_28 X hY hXs hn h0 h6 hR hnext
      · refine am_tableIn (off := 898) (tgt := 931) X dL_law_33 (by omega) (by omega) (by rw [e]; rfl) (by decide) ?_
        exact lw_op_29 X hY hXs hn h0 h6 hR hnext
      · refine am_tableIn (off := 921) (tgt := 954) X dL_law_33 (by omega) (by omega) (by rw [e]; rfl) (by decide) ?_
        exact lw_op_30 X hY hXs hn h0 h6 hR hnext
      · refine am_tableIn (off := 964) (tgt := 997) X dL_law_33 (by omega) (by omega) (by rw [e]; rfl) (by decide) ?_
        exact lw_op_31 X hY hXs hn h0 h6 hR hnext
      · refine am_tableIn (off := 987) (tgt := 1020) X dL_law_33 (by omega) (by omega) (by rw [e]; rfl) (by decide) ?_
        exact lw_op_32 X hY hXs hn h0 h6 hR hnext
      · refine am_tableIn (off := 1020) (tgt := 1053) X dL_law_33 (by omega) (by omega) (by rw [e]; rfl) (by decide) ?_
        exact lw_op_33 X hY hXs hn h0 h6 hR hnext
      · refine am_tableIn (off := 1063) (tgt := 1096) X dL_law_33 (by omega) (by omega) (by rw [e]; rfl) (by decide) ?_
        exact lw_op_34 X hY hXs hn h0 h6 hR hnext
      · refine am_tableIn (off := 1136) (tgt := 1169) X dL_law_33 (by omega) (by omega) (by rw [e]; rfl) (by decide) ?_
        exact lw_op_35 X hY hXs hn h0 h6 hR hnext
      · refine am_tableIn (off := 1170) (tgt := 1203) X dL_law_33 (by omega) (by omega) (by rw [e]; rfl) (by decide) ?_
        exact lw_op_36 X hY hXs hn h0 h6 hR hnext
      · refine am_tableIn (off := 1233) (tgt := 1266) X dL_law_33 (by omega) (by omega) (by rw [e]; rfl) (by decide) ?_
        exact lw_op_37 X hY hXs hn h0 h6 hR hnext
      · refine am_tableIn (off := 1266) (tgt := 1299) X dL_law_33 (by omega) (by omega) (by rw [e]; rfl) (by decide) ?_
        exact lw_op_38 X hY hXs hn h0 h6 hR hnext
theorem mk_S9_z {c k : Nat} (h : 63 ≤ c) : mk_S9 c k = 0 := mk_S9_0 (by omega)
set_option maxHeartbeats 4000000 in
set_option maxRecDepth 100000 in
theorem lw_go {K : am_K} {n : Nat} {xs : Nat → Int32} (X : am_X K cL_law RL) (hY : am_Y K 2048 600000 7302250) (hXs : am_Xs K n xs) (hn : n ≤ 3072) (hret : ∀ (L : List (Option am_V)) (σ : am_H), am_G K 1329 L [vi 1] SH σ) : am_G K 0 [some (vr 1002), none, none, none] [] [] mk_Z := by
  refine am_new (ci := 8) (n := 12) X hY (by rfl) kl_L_7 nw_X9 in_X9 (by decide) (by decide) (by decide) dL_law_0 ?_
  rw [nw_id (σ := mk_Z) (fun k => rfl)]
  show am_G K 3 [some (vr 1002), none, none, none] [vr 0] (([] : List am_S) ++ ((18, 12, [none, none, none, none, none, none, none, none, none, none, none, none]) :: [])) mk_Z
  refine am_dup X (Nat.ne_of_beq_eq_false rfl) dL_law_3 ?_
  refine am_callIv (vs := []) X hY lk_L_9 mf_X9_init m_X9_init (Nat.le_of_ble_eq_true rfl) (by decide) (by decide +kernel) (by decide +kernel) rfl rfl (Nat.le_of_ble_eq_true rfl) dL_law_4 (fun sh4 σ4 hp4 => ?_)
  obtain ⟨rfl, rfl⟩ := hp4
  refine am_astore_n (i := 1) (L' := [some (vr 1002), some (vr 0), none, none]) X rfl (Nat.le_of_ble_eq_true rfl) (by rfl) dL_law_7 ?_
  have hl : (SH.take 63).length = 63 := by decide +kernel
  refine am_new (ci := 9) (n := 49) X hY (by rfl) kl_L_10 nw_X10 in_X10 (by decide +kernel) (by decide +kernel) (by decide +kernel) dL_law_8 ?_
  rw [hl, nw_id (σ := mk_S9) (fun k => mk_S9_z (by decide))]
  refine am_dup X (Nat.ne_of_beq_eq_false rfl) dL_law_11 ?_
  refine am_callIv (vs := []) X hY lk_L_12 mf_X10_init (m_X10_init (SH.take 63) 63 hl mk_S9 (fun c k hc => mk_S9_z hc) (by decide)) (Nat.le_of_ble_eq_true rfl) (by decide) (by decide +kernel) (by decide +kernel) rfl rfl (Nat.le_of_ble_eq_true rfl) dL_law_12 (fun sh12 σ12 hp12 => ?_)
  have e1 : SH = sh12 := by
    rw [← hp12.1]; decide +kernel
  have e2 : mk_S10 = σ12 := hp12.2
  clear hp12
  subst e1
  subst e2
  refine am_astore_n (i := 2) (L' := [some (vr 1002), some (vr 0), some (vr 63), none]) X rfl (Nat.le_of_ble_eq_true rfl) (by rfl) dL_law_15 ?_
  refine am_ic X (by decide) dL_law_16 ?_
  refine am_istore_n (i := 3) (L' := [some (vr 1002), some (vr 0), some (vr 63), some (vi 0)]) X rfl (Nat.le_of_ble_eq_true rfl) (by rfl) dL_law_17 ?_
  exact lw_loop X hY hXs hn hret _ 0 mk_S10 (by decide) (by omega) rfl RR_start
