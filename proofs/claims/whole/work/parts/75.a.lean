set_option maxHeartbeats 4000000 in
set_option maxRecDepth 100000 in
theorem m_X10_balanceOfAny (p : Nat) (σ : am_H) (hc : 0 ≤ σ 63 7 ∧ σ 63 7 ≤ 20) (hd : ∀ n : Nat, (n : Int) < σ 63 7 → 0 ≤ σ 68 (5 * n + 2) ∧ σ 68 (5 * n + 2) ≤ 9) : am_Mi yX10_balanceOfAny cX10_balanceOfAny 5 (some .int) 0 0 0 [vr 63, vi (p : Int)] SH σ (fun r sh' σ' => SH = sh' ∧ σ = σ' ∧ r = md_net σ p ∧ -180 ≤ r ∧ r ≤ 180) := by
  refine am_Mi_of (by decide +kernel) (Nat.le_of_ble_eq_true rfl) (fun K X hY hI hret => ?_)
  show am_G K 0 [some (vr 63), some (vi (p : Int)), none, none, none] [] SH σ
  refine am_ic X (by decide) dX10_balanceOfAny_0 ?_
  refine am_istore_n (i := 2) (L' := [some (vr 63), some (vi (p : Int)), some (vi 0), none, none]) X rfl (Nat.le_of_ble_eq_true rfl) (by rfl) dX10_balanceOfAny_1 ?_
  refine am_ic X (by decide) dX10_balanceOfAny_2 ?_
  refine am_istore_n (i := 3) (L' := [some (vr 63), some (vi (p : Int)), some (vi 0), some (vi 0), none]) X rfl (Nat.le_of_ble_eq_true rfl) (by rfl) dX10_balanceOfAny_3 ?_
  have hL4 : ∀ (m4 : Nat) (k : Nat) (s : Int) (hk : (k : Int) ≤ σ 63 7) (hs : s = am_sum (md_con σ p) k) (hm4 : 20 - k = m4), am_G K 4 [some (vr 63), some (vi (p : Int)), some (vi s), some (vi (k : Int)), none] [] SH σ := by
    intro m4
    induction m4 using Nat.strongRecOn with
    | ind m4 ih4 =>
    intro k s hk hs hm4
    have hb1 : -180 ≤ am_sum (md_con σ p) k ∧ am_sum (md_con σ p) k ≤ 180 := by
      have h := am_sum_rg (f := md_con σ p) (m := 9) k (fun i hi => by have := hd i (by omega); unfold md_con; (repeat' split) <;> omega)
      omega
    have hdk := fun h : (k : Int) < σ 63 7 => hd k h
    refine am_iload_n (x := (k : Int)) X (by rfl) dX10_balanceOfAny_4 ?_
    refine am_aload_n (x := 63) X (by rfl) dX10_balanceOfAny_5 ?_
    refine am_get (v := σ 63 7) X 63 fl_X10_111 (by decide) sh_63 (by decide) (rfl) dX10_balanceOfAny_6 ?_
    refine am_icmp_ge (tgt := 110) X dX10_balanceOfAny_9 (by decide) (fun h9 => ?_) (fun h9 => ?_)
    · skip
      refine am_iload_n (x := s) X (by rfl) dX10_balanceOfAny_110 ?_
      exact hret _ _ _ _ _ dX10_balanceOfAny_111 rfl rfl (⟨rfl, rfl, by rw [hs]; unfold md_net; rw [show (σ 63 7).toNat = k by omega], by omega, by omega⟩)
    · skip
      refine am_aload_n (x := 63) X (by rfl) dX10_balanceOfAny_12 ?_
      refine am_getr (c1 := 68) X 63 fl_X10_22 (by decide) sh_63 (by decide) (by rfl) dX10_balanceOfAny_13 ?_
      refine am_ic X (by decide) dX10_balanceOfAny_16 ?_
      refine am_iload_n (x := (k : Int)) X (by rfl) dX10_balanceOfAny_17 ?_
      refine am_mul (v := (5 * (k : Int))) X (by first | rfl | omega) (by omega) dX10_balanceOfAny_18 ?_
      refine am_ic X (by decide) dX10_balanceOfAny_19 ?_
      refine am_add (v := ((5 * (k : Int)) + 3)) X (by first | rfl | omega) (by omega) dX10_balanceOfAny_20 ?_
      refine am_ald (v := σ 68 (5 * k + 3)) X 68 (5 * k + 3) sh_68 (by omega) (by omega) (rfl) dX10_balanceOfAny_21 ?_
      refine am_bipush X (by decide) dX10_balanceOfAny_22 ?_
      refine am_icmp_ne (tgt := 31) X dX10_balanceOfAny_24 (by decide) (fun h24 => ?_) (fun h24 => ?_)
      · skip
        refine am_ic X (by decide) dX10_balanceOfAny_31 ?_
        refine am_istore (i := 4) (L' := [some (vr 63), some (vi (p : Int)), some (vi s), some (vi (k : Int)), some (vi 0)]) X (Nat.le_of_ble_eq_true rfl) (by rfl) dX10_balanceOfAny_32 ?_
        refine am_iload_n (x := s) X (by rfl) dX10_balanceOfAny_34 ?_
        refine am_iload (x := 0) X (by rfl) dX10_balanceOfAny_35 ?_
        refine am_if_eq (tgt := 67) X dX10_balanceOfAny_37 (by decide) (fun _ => ?_) (fun h => absurd h (by decide))
        refine am_ic X (by decide) dX10_balanceOfAny_67 ?_
        refine am_add (v := (s + 0)) X (by first | rfl | omega) (by omega) dX10_balanceOfAny_68 ?_
        refine am_istore_n (i := 2) (L' := [some (vr 63), some (vi (p : Int)), some (vi (s + 0)), some (vi (k : Int)), some (vi 0)]) X rfl (Nat.le_of_ble_eq_true rfl) (by rfl) dX10_balanceOfAny_69 ?_
        refine am_iload_n (x := (s + 0)) X (by rfl) dX10_balanceOfAny_70 ?_
        refine am_iload (x := 0) X (by rfl) dX10_balanceOfAny_71 ?_
        refine am_if_eq (tgt := 101) X dX10_balanceOfAny_73 (by decide) (fun _ => ?_) (fun h => absurd h (by decide))
        refine am_ic X (by decide) dX10_balanceOfAny_101 ?_
        refine am_sub (v := ((s + 0) - 0)) X (by first | rfl | omega) (by omega) dX10_balanceOfAny_102 ?_
        refine am_istore_n (i := 2) (L' := [some (vr 63), some (vi (p : Int)), some (vi ((s + 0) - 0)), some (vi (k : Int)), some (vi 0)]) X rfl (Nat.le_of_ble_eq_true rfl) (by rfl) dX10_balanceOfAny_103 ?_
        refine am_inc (x := (k : Int)) (v := ((k : Int) + 1)) (L' := [some (vr 63), some (vi (p : Int)), some (vi ((s + 0) - 0)), some (vi ((k : Int) + 1)), some (vi 0)]) X (by rfl) (by omega) (by omega) (by rfl) dX10_balanceOfAny_104 ?_
        refine am_goto (tgt := 4) X dX10_balanceOfAny_107 (by decide) ?_
        refine am_fg [true, true, true, true, false] rfl (L' := [some (vr 63), some (vi (p : Int)), some (vi ((s + 0) - 0)), some (vi ((k : Int) + 1)), none]) rfl ?_
        exact ih4 _ (by omega) (k + 1) ((s + 0) - 0) (by omega) (by (try subst s); show _ = am_sum (md_con σ p) k + md_con σ p k; unfold md_con; (repeat' split) <;> omega) rfl
      · skip
        refine am_ic X (by decide) dX10_balanceOfAny_27 ?_
        refine am_goto (tgt := 32) X dX10_balanceOfAny_28 (by decide) ?_
        refine am_istore (i := 4) (L' := [some (vr 63), some (vi (p : Int)), some (vi s), some (vi (k : Int)), some (vi 1)]) X (Nat.le_of_ble_eq_true rfl) (by rfl) dX10_balanceOfAny_32 ?_
        refine am_iload_n (x := s) X (by rfl) dX10_balanceOfAny_34 ?_
        refine am_iload (x := 1) X (by rfl) dX10_balanceOfAny_35 ?_
        refine am_if_eq (tgt := 67) X dX10_balanceOfAny_37 (by decide) (fun h => absurd h (by decide)) (fun _ => ?_)
        refine am_aload_n (x := 63) X (by rfl) dX10_balanceOfAny_40 ?_
        refine am_getr (c1 := 68) X 63 fl_X10_22 (by decide) sh_63 (by decide) (by rfl) dX10_balanceOfAny_41 ?_
        refine am_ic X (by decide) dX10_balanceOfAny_44 ?_
        refine am_iload_n (x := (k : Int)) X (by rfl) dX10_balanceOfAny_45 ?_
        refine am_mul (v := (5 * (k : Int))) X (by first | rfl | omega) (by omega) dX10_balanceOfAny_46 ?_
        refine am_ic X (by decide) dX10_balanceOfAny_47 ?_
        refine am_add (v := ((5 * (k : Int)) + 1)) X (by first | rfl | omega) (by omega) dX10_balanceOfAny_48 ?_
        refine am_ald (v := σ 68 (5 * k + 1)) X 68 (5 * k + 1) sh_68 (by omega) (by omega) (rfl) dX10_balanceOfAny_49 ?_
        refine am_iload_n (x := (p : Int)) X (by rfl) dX10_balanceOfAny_50 ?_
        refine am_icmp_ne (tgt := 67) X dX10_balanceOfAny_51 (by decide) (fun h51 => ?_) (fun h51 => ?_)
        · skip
          refine am_ic X (by decide) dX10_balanceOfAny_67 ?_
          refine am_add (v := (s + 0)) X (by first | rfl | omega) (by omega) dX10_balanceOfAny_68 ?_
          refine am_istore_n (i := 2) (L' := [some (vr 63), some (vi (p : Int)), some (vi (s + 0)), some (vi (k : Int)), some (vi 1)]) X rfl (Nat.le_of_ble_eq_true rfl) (by rfl) dX10_balanceOfAny_69 ?_
          refine am_iload_n (x := (s + 0)) X (by rfl) dX10_balanceOfAny_70 ?_
          refine am_iload (x := 1) X (by rfl) dX10_balanceOfAny_71 ?_
          refine am_if_eq (tgt := 101) X dX10_balanceOfAny_73 (by decide) (fun h => absurd h (by decide)) (fun _ => ?_)
          refine am_aload_n (x := 63) X (by rfl) dX10_balanceOfAny_76 ?_
          refine am_getr (c1 := 68) X 63 fl_X10_22 (by decide) sh_63 (by decide) (by rfl) dX10_balanceOfAny_77 ?_
          refine am_ic X (by decide) dX10_balanceOfAny_80 ?_
          refine am_iload_n (x := (k : Int)) X (by rfl) dX10_balanceOfAny_81 ?_
          refine am_mul (v := (5 * (k : Int))) X (by first | rfl | omega) (by omega) dX10_balanceOfAny_82 ?_
          refine am_ald (v := σ 68 (5 * k)) X 68 (5 * k) sh_68 (by omega) (by omega) (rfl) dX10_balanceOfAny_83 ?_
          refine am_iload_n (x := (p : Int)) X (by rfl) dX10_balanceOfAny_84 ?_
          refine am_icmp_ne (tgt := 101) X dX10_balanceOfAny_85 (by decide) (fun h85 => ?_) (fun h85 => ?_)
          · skip
            refine am_ic X (by decide) dX10_balanceOfAny_101 ?_
            refine am_sub (v := ((s + 0) - 0)) X (by first | rfl | omega) (by omega) dX10_balanceOfAny_102 ?_
            refine am_istore_n (i := 2) (L' := [some (vr 63), some (vi (p : Int)), some (vi ((s + 0) - 0)), some (vi (k : Int)), some (vi 1)]) X rfl (Nat.le_of_ble_eq_true rfl) (by rfl) dX10_balanceOfAny_103 ?_
            refine am_inc (x := (k : Int)) (v := ((k : Int) + 1)) (L' := [some (vr 63), some (vi (p : Int)), some (vi ((s + 0) - 0)), some (vi ((k : Int) + 1)), some (vi 1)]) X (by rfl) (by omega) (by omega) (by rfl) dX10_balanceOfAny_104 ?_
            refine am_goto (tgt := 4) X dX10_balanceOfAny_107 (by decide) ?_
            refine am_fg [true, true, true, true, false] rfl (L' := [some (vr 63), some (vi (p : Int)), some (vi ((s + 0) - 0)), some (vi ((k : Int) + 1)), none]) rfl ?_
            exact ih4 _ (by omega) (k + 1) ((s + 0) - 0) (by omega) (by (try subst s); show _ = am_sum (md_con σ p) k + md_con σ p k; unfold md_con; (repeat' split) <;> omega) rfl
          · skip
            refine am_aload_n (x := 63) X (by rfl) dX10_balanceOfAny_88 ?_
            refine am_getr (c1 := 68) X 63 fl_X10_22 (by decide) sh_63 (by decide) (by rfl) dX10_balanceOfAny_89 ?_
            refine am_ic X (by decide) dX10_balanceOfAny_92 ?_
            refine am_iload_n (x := (k : Int)) X (by rfl) dX10_balanceOfAny_93 ?_
            refine am_mul (v := (5 * (k : Int))) X (by first | rfl | omega) (by omega) dX10_balanceOfAny_94 ?_
            refine am_ic X (by decide) dX10_balanceOfAny_95 ?_
            refine am_add (v := ((5 * (k : Int)) + 2)) X (by first | rfl | omega) (by omega) dX10_balanceOfAny_96 ?_
            refine am_ald (v := σ 68 (5 * k + 2)) X 68 (5 * k + 2) sh_68 (by omega) (by omega) (rfl) dX10_balanceOfAny_97 ?_
            refine am_goto (tgt := 102) X dX10_balanceOfAny_98 (by decide) ?_
            refine am_sub (v := ((s + 0) - σ 68 (5 * k + 2))) X (by first | rfl | omega) (by omega) dX10_balanceOfAny_102 ?_
            refine am_istore_n (i := 2) (L' := [some (vr 63), some (vi (p : Int)), some (vi ((s + 0) - σ 68 (5 * k + 2))), some (vi (k : Int)), some (vi 1)]) X rfl (Nat.le_of_ble_eq_true rfl) (by rfl) dX10_balanceOfAny_103 ?_
            refine am_inc (x := (k : Int)) (v := ((k : Int) + 1)) (L' := [some (vr 63), some (vi (p : Int)), some (vi ((s + 0) - σ 68 (5 * k + 2))), some (vi ((k : Int) + 1)), some (vi 1)]) X (by rfl) (by omega) (by omega) (by rfl) dX10_balanceOfAny_104 ?_
            refine am_goto (tgt := 4) X dX10_balanceOfAny_107 (by decide) ?_
            refine am_fg [true, true, true, true, false] rfl (L' := [some (vr 63), some (vi (p : Int)), some (vi ((s + 0) - σ 68 (5 * k + 2))), some (vi ((k : Int) + 1)), none]) rfl ?_
            exact ih4 _ (by omega) (k + 1) ((s + 0) - σ 68 (5 * k + 2)) (by omega) (by (try subst s); show _ = am_sum (md_con σ p) k + md_con σ p k; unfold md_con; (repeat' split) <;> omega) rfl
        · skip
          refine am_aload_n (x := 63) X (by rfl) dX10_balanceOfAny_54 ?_
          refine am_getr (c1 := 68) X 63 fl_X10_22 (by decide) sh_63 (by decide) (by rfl) dX10_balanceOfAny_55 ?_
          refine am_ic X (by decide) dX10_balanceOfAny_58 ?_
          refine am_iload_n (x := (k : Int)) X (by rfl) dX10_balanceOfAny_59 ?_
          refine am_mul (v := (5 * (k : Int))) X (by first | rfl | omega) (by omega) dX10_balanceOfAny_60 ?_
          refine am_ic X (by decide) dX10_balanceOfAny_61 ?_
          refine am_add (v := ((5 * (k : Int)) + 2)) X (by first | rfl | omega) (by omega) dX10_balanceOfAny_62 ?_
          refine am_ald (v := σ 68 (5 * k + 2)) X 68 (5 * k + 2) sh_68 (by omega) (by omega) (rfl) dX10_balanceOfAny_63 ?_
          refine am_goto (tgt := 68) X dX10_balanceOfAny_64 (by decide) ?_
          refine am_add (v := (s + σ 68 (5 * k + 2))) X (by first | rfl | omega) (by omega) dX10_balanceOfAny_68 ?_
          refine am_istore_n (i := 2) (L' := [some (vr 63), some (vi (p : Int)), some (vi (s + σ 68 (5 * k + 2))), some (vi (k : Int)), some (vi 1)]) X rfl (Nat.le_of_ble_eq_true rfl) (by rfl) dX10_balanceOfAny_69 ?_
          refine am_iload_n (x := (s + σ 68 (5 * k + 2))) X (by rfl) dX10_balanceOfAny_70 ?_
          refine am_iload (x := 1) X (by rfl) dX10_balanceOfAny_71 ?_
          refine am_if_eq (tgt := 101) X dX10_balanceOfAny_73 (by decide) (fun h => absurd h (by decide)) (fun _ => ?_)
          refine am_aload_n (x := 63) X (by rfl) dX10_balanceOfAny_76 ?_
          refine am_getr (c1 := 68) X 63 fl_X10_22 (by decide) sh_63 (by decide) (by rfl) dX10_balanceOfAny_77 ?_
          refine am_ic X (by decide) dX10_balanceOfAny_80 ?_
          refine am_iload_n (x := (k : Int)) X (by rfl) dX10_balanceOfAny_81 ?_
          refine am_mul (v := (5 * (k : Int))) X (by first | rfl | omega) (by omega) dX10_balanceOfAny_82 ?_
          refine am_ald (v := σ 68 (5 * k)) X 68 (5 * k) sh_68 (by omega) (by omega) (rfl) dX10_balanceOfAny_83 ?_
          refine am_iload_n (x := (p : Int)) X (by rfl) dX10_balanceOfAny_84 ?_
          refine am_icmp_ne (tgt := 101) X dX10_balanceOfAny_85 (by decide) (fun h85 => ?_) (fun h85 => ?_)
          · skip
            refine am_ic X (by decide) dX10_balanceOfAny_101 ?_
            refine am_sub (v := ((s + σ 68 (5 * k + 2)) - 0)) X (by first | rfl | omega) (by omega) dX10_balanceOfAny_102 ?_
            refine am_istore_n (i := 2) (L' := [some (vr 63), some (vi (p : Int)), some (vi ((s + σ 68 (5 * k + 2)) - 0)), some (vi (k : Int)), some (vi 1)]) X rfl (Nat.le_of_ble_eq_true rfl) (by rfl) dX10_balanceOfAny_103 ?_
            refine am_inc (x := (k : Int)) (v := ((k : Int) + 1)) (L' := [some (vr 63), some (vi (p : Int)), some (vi ((s + σ 68 (5 * k + 2)) - 0)), some (vi ((k : Int) + 1)), some (vi 1)]) X (by rfl) (by omega) (by omega) (by rfl) dX10_balanceOfAny_104 ?_
            refine am_goto (tgt := 4) X dX10_balanceOfAny_107 (by decide) ?_
            refine am_fg [true, true, true, true, false] rfl (L' := [some (vr 63), some (vi (p : Int)), some (vi ((s + σ 68 (5 * k + 2)) - 0)), some (vi ((k : Int) + 1)), none]) rfl ?_
            exact ih4 _ (by omega) (k + 1) ((s + σ 68 (5 * k + 2)) - 0) (by omega) (by (try subst s); show _ = am_sum (md_con σ p) k + md_con σ p k; unfold md_con; (repeat' split) <;> omega) rfl
          · skip
            refine am_aload_n (x := 63) X (by rfl) dX10_balanceOfAny_88 ?_
            refine am_getr (c1 := 68) X 63 fl_X10_22 (by decide) sh_63 (by decide) (by rfl) dX10_balanceOfAny_89 ?_
            refine am_ic X (by decide) dX10_balanceOfAny_92 ?_
            refine am_iload_n (x := (k : Int)) X (by rfl) dX10_balanceOfAny_93 ?_
            refine am_mul (v := (5 * (k : Int))) X (by first | rfl | omega) (by omega) dX10_balanceOfAny_94 ?_
            refine am_ic X (by decide) dX10_balanceOfAny_95 ?_
            refine am_add (v := ((5 * (k : Int)) + 2)) X (by first | rfl | omega) (by omega) dX10_balanceOfAny_96 ?_
            refine am_ald (v := σ 68 (5 * k + 2)) X 68 (5 * k + 2) sh_68 (by omega) (by omega) (rfl) dX10_balanceOfAny_97 ?_
            refine am_goto (tgt := 102) X dX10_balanceOfAny_98 (by decide) ?_
            refine am_sub (v := ((s + σ 68 (5 * k + 2)) - σ 68 (5 * k + 2))) X (by first | rfl | omega) (by omega) dX10_balanceOfAny_102 ?_
            refine am_istore_n (i := 2) (L' := [some (vr 63), some (vi (p : Int)), some (vi ((s + σ 68 (5 * k + 2)) - σ 68 (5 * k + 2))), some (vi (k : Int)), some (vi 1)]) X rfl (Nat.le_of_ble_eq_true rfl) (by rfl) dX10_balanceOfAny_103 ?_
            refine am_inc (x := (k : Int)) (v := ((k : Int) + 1)) (L' := [some (vr 63), some (vi (p : Int)), some (vi ((s + σ 68 (5 * k + 2)) - σ 68 (5 * k + 2))), some (vi ((k : Int) + 1)), some (vi 1)]) X (by rfl) (by omega) (by omega) (by rfl) dX10_balanceOfAny_104 ?_
            refine am_goto (tgt := 4) X dX10_balanceOfAny_107 (by decide) ?_
            refine am_fg [true, true, true, true, false] rfl (L' := [some (vr 63), some (vi (p : Int)), some (vi ((s + σ 68 (5 * k + 2)) - σ 68 (5 * k + 2))), some (vi ((k : Int) + 1)), none]) rfl ?_
            exact ih4 _ (by omega) (k + 1) ((s + σ 68 (5 * k + 2)) - σ 68 (5 * k + 2)) (by omega) (by (try subst s); show _ = am_sum (md_con σ p) k + md_con σ p k; unfold md_con; (repeat' split) <;> omega) rfl
  exact hL4 _ 0 0 (by omega) (rfl) rfl

set_option maxHeartbeats 4000000 in
set_option maxRecDepth 100000 in
theorem m_X10_wiped (σ : am_H) (P N : Nat) (hPP : P ≤ 8) (hPe : σ 63 6 = (P : Int)) (hN : 2 ^ P = N) (hc : 0 ≤ σ 63 7 ∧ σ 63 7 ≤ 20) (hd : ∀ n : Nat, (n : Int) < σ 63 7 → 0 ≤ σ 68 (5 * n + 2) ∧ σ 68 (5 * n + 2) ≤ 9) : am_Mi yX10_wiped cX10_wiped 5 (some .int) 1 0 0 [vr 63] SH σ (fun r sh' σ' => SH = sh' ∧ (∀ c k : Nat, c ≠ 77 → c ≠ 78 → σ' c k = σ c k) ∧ wp_ch (σ' 78) (md_net σ) P N ∧ r = (P : Int) - σ' 78 (N - 1)) := by
  refine am_Mi_of (by decide +kernel) (Nat.le_of_ble_eq_true rfl) (fun K X hY hI hret => ?_)
  show am_G K 0 [some (vr 63), none, none, none, none] [] SH σ
  obtain ⟨hP2, hN1, hN2⟩ := wb_p ⟨P, by omega⟩
  have hP2 : am_shl 1 (P : Int) = ((2 ^ P : Nat) : Int) := hP2
  have hN1 : 1 ≤ 2 ^ P := hN1
  have hN2 : 2 ^ P ≤ 256 := hN2
  rw [hN] at hP2 hN1 hN2
  have hnb : ∀ k, -180 ≤ md_net σ k ∧ md_net σ k ≤ 180 := fun k => by
    have h := am_sum_rg (f := md_con σ k) (m := 9) (σ 63 7).toNat (fun i hi => by have := hd i (by omega); unfold md_con; (repeat' split) <;> omega)
    have h : -(9 * ((σ 63 7).toNat : Int)) ≤ md_net σ k ∧ md_net σ k ≤ 9 * ((σ 63 7).toNat : Int) := h
    omega
  refine am_ic X (by decide) dX10_wiped_0 ?_
  refine am_istore_n (i := 1) (L' := [some (vr 63), some (vi 0), none, none, none]) X rfl (Nat.le_of_ble_eq_true rfl) (by rfl) dX10_wiped_1 ?_
  have hL2 : ∀ (m2 : Nat) (s : Nat) (τ : am_H) (hs1 : s ≤ N) (hfr : ∀ c k : Nat, c ≠ 77 → c ≠ 78 → τ c k = σ c k) (hch : wp_ch (τ 78) (md_net σ) P s) (hT : ∀ r : Nat, r < s → 0 ≤ τ 78 r ∧ τ 78 r ≤ (r : Int)) (hm2 : N - s = m2), am_G K 2 [some (vr 63), some (vi (s : Int)), none, none, none] [] SH τ := by
    intro m2
    induction m2 using Nat.strongRecOn with
    | ind m2 ih2 =>
    intro s τ hs1 hfr hch hT hm2
    refine am_iload_n (x := (s : Int)) X (by rfl) dX10_wiped_2 ?_
    refine am_ic X (by decide) dX10_wiped_3 ?_
    refine am_aload_n (x := 63) X (by rfl) dX10_wiped_4 ?_
    refine am_get (v := (P : Int)) X 63 fl_X10_100 (by decide) sh_63 (by decide) ((hfr 63 6 (by decide) (by decide)).trans hPe) dX10_wiped_5 ?_
    refine am_ishl X dX10_wiped_8 ?_
    refine am_icmp_ge (tgt := 152) X dX10_wiped_9 (by decide) (fun h9 => ?_) (fun h9 => ?_)
    · skip
      have hTN := hT (N - 1) (by omega)
      refine am_aload_n (x := 63) X (by rfl) dX10_wiped_152 ?_
      refine am_get (v := (P : Int)) X 63 fl_X10_100 (by decide) sh_63 (by decide) ((hfr 63 6 (by decide) (by decide)).trans hPe) dX10_wiped_153 ?_
      refine am_aload_n (x := 63) X (by rfl) dX10_wiped_156 ?_
      refine am_getr (c1 := 78) X 63 fl_X10_53 (by decide) sh_63 (by decide) (by rfl) dX10_wiped_157 ?_
      refine am_ic X (by decide) dX10_wiped_160 ?_
      refine am_aload_n (x := 63) X (by rfl) dX10_wiped_161 ?_
      refine am_get (v := (P : Int)) X 63 fl_X10_100 (by decide) sh_63 (by decide) ((hfr 63 6 (by decide) (by decide)).trans hPe) dX10_wiped_162 ?_
      refine am_ishl X dX10_wiped_165 ?_
      refine am_ic X (by decide) dX10_wiped_166 ?_
      refine am_sub (v := ((am_shl 1 (P : Int)) - 1)) X (by first | rfl | omega) (by omega) dX10_wiped_167 ?_
      refine am_ald (v := τ 78 (N - 1)) X 78 (N - 1) sh_78 (by omega) (by omega) (rfl) dX10_wiped_168 ?_
      refine am_sub (v := ((P : Int) - τ 78 (N - 1))) X (by first | rfl | omega) (by omega) dX10_wiped_169 ?_
      exact hret _ _ _ _ _ dX10_wiped_170 rfl rfl (⟨rfl, hfr, by rw [show N = s by omega]; exact hch, rfl⟩)
    · skip
      refine am_aload_n (x := 63) X (by rfl) dX10_wiped_12 ?_
      refine am_getr (c1 := 77) X 63 fl_X10_50 (by decide) sh_63 (by decide) (by rfl) dX10_wiped_13 ?_
      refine am_iload_n (x := (s : Int)) X (by rfl) dX10_wiped_16 ?_
      refine am_ic X (by decide) dX10_wiped_17 ?_
      refine am_ast X 77 s sh_77 (by omega) (by omega) dX10_wiped_18 ?_
      refine am_ic X (by decide) dX10_wiped_19 ?_
      refine am_istore_n (i := 2) (L' := [some (vr 63), some (vi (s : Int)), some (vi 0), none, none]) X rfl (Nat.le_of_ble_eq_true rfl) (by rfl) dX10_wiped_20 ?_
      have hL21 : ∀ (m21 : Nat) (p : Nat) (τ2 : am_H) (hpP : p ≤ P) (hsum : τ2 77 s = wp_sm (md_net σ) s p) (hfr2 : ∀ c k : Nat, c ≠ 77 → c ≠ 78 → τ2 c k = σ c k) (h78 : ∀ k, τ2 78 k = τ 78 k) (hm21 : P - p = m21), am_G K 21 [some (vr 63), some (vi (s : Int)), some (vi (p : Int)), none, none] [] SH τ2 := by
        intro m21
        induction m21 using Nat.strongRecOn with
        | ind m21 ih21 =>
        intro p τ2 hpP hsum hfr2 h78 hm21
        have hsb := wp_sm_bd (net := md_net σ) (s := s) (P := p) (by omega) (fun q _ => hnb q)
        have hnp := hnb p
        refine am_iload_n (x := (p : Int)) X (by rfl) dX10_wiped_21 ?_
        refine am_aload_n (x := 63) X (by rfl) dX10_wiped_22 ?_
        refine am_get (v := (P : Int)) X 63 fl_X10_100 (by decide) sh_63 (by decide) ((hfr2 63 6 (by decide) (by decide)).trans hPe) dX10_wiped_23 ?_
        refine am_icmp_ge (tgt := 62) X dX10_wiped_26 (by decide) (fun h26 => ?_) (fun h26 => ?_)
        · skip
          have hpP2 : p = P := by omega
          have hsum2 : τ2 77 s = wp_sm (md_net σ) s P := by rw [← hpP2]; exact hsum
          refine am_ic X (by decide) dX10_wiped_62 ?_
          refine am_istore_n (i := 2) (L' := [some (vr 63), some (vi (s : Int)), some (vi 0), none, none]) X rfl (Nat.le_of_ble_eq_true rfl) (by rfl) dX10_wiped_63 ?_
          refine am_ic X (by decide) dX10_wiped_64 ?_
          refine am_istore_n (i := 3) (L' := [some (vr 63), some (vi (s : Int)), some (vi 0), some (vi 0), none]) X rfl (Nat.le_of_ble_eq_true rfl) (by rfl) dX10_wiped_65 ?_
          have hL66 : ∀ (m66 : Nat) (q : Nat) (mo : Int) (hqP : q ≤ P) (hmo : mo = wp_mx (τ 78) s q) (hm66 : P - q = m66), am_G K 66 [some (vr 63), some (vi (s : Int)), some (vi mo), some (vi (q : Int)), none] [] SH τ2 := by
            intro m66
            induction m66 using Nat.strongRecOn with
            | ind m66 ih66 =>
            intro q mo hqP hmo hm66
            have hmb0 := wp_mx_bd (T := τ 78) (s := s) (m := (s : Int)) (by omega) (by omega) q (by omega) (fun r hr => by have := hT r hr; omega)
            rw [← hmo] at hmb0
            refine am_iload_n (x := (q : Int)) X (by rfl) dX10_wiped_66 ?_
            refine am_aload_n (x := 63) X (by rfl) dX10_wiped_67 ?_
            refine am_get (v := (P : Int)) X 63 fl_X10_100 (by decide) sh_63 (by decide) ((hfr2 63 6 (by decide) (by decide)).trans hPe) dX10_wiped_68 ?_
            refine am_icmp_ge (tgt := 120) X dX10_wiped_71 (by decide) (fun h71 => ?_) (fun h71 => ?_)
            · skip
              have hqP2 : q = P := by omega
              have hss := hsum2
              rw [hqP2] at hmo
              have hmb1 : 0 < s → mo ≤ (s : Int) - 1 := fun h0 => by
                have := (wp_mx_bd (T := τ 78) (s := s) (m := (s : Int) - 1) (by omega) (by omega) P hPP (fun r hr => by have := hT r hr; omega)).2
                rw [← hmo] at this; exact this
              have hmz : s = 0 → mo = 0 := fun h0 => by rw [hmo, h0, wp_mx_0]
              refine am_aload_n (x := 63) X (by rfl) dX10_wiped_120 ?_
              refine am_getr (c1 := 78) X 63 fl_X10_53 (by decide) sh_63 (by decide) (by rfl) dX10_wiped_121 ?_
              refine am_iload_n (x := (s : Int)) X (by rfl) dX10_wiped_124 ?_
              refine am_iload_n (x := mo) X (by rfl) dX10_wiped_125 ?_
              refine am_iload_n (x := (s : Int)) X (by rfl) dX10_wiped_126 ?_
              refine am_if_le (tgt := 143) X dX10_wiped_127 (by decide) (fun h127 => ?_) (fun h127 => ?_)
              · skip
                refine am_ic X (by decide) dX10_wiped_143 ?_
                refine am_add (v := (mo + 0)) X (by first | rfl | omega) (by omega) dX10_wiped_144 ?_
                refine am_ast X 78 s sh_78 (by omega) (by omega) dX10_wiped_145 ?_
                refine am_inc (x := (s : Int)) (v := ((s : Int) + 1)) (L' := [some (vr 63), some (vi ((s : Int) + 1)), some (vi mo), some (vi (q : Int)), none]) X (by rfl) (by omega) (by omega) (by rfl) dX10_wiped_146 ?_
                refine am_goto (tgt := 2) X dX10_wiped_149 (by decide) ?_
                refine am_fg [true, true, false, false, false] rfl (L' := [some (vr 63), some (vi ((s : Int) + 1)), none, none, none]) rfl ?_
                exact ih2 _ (by omega) (s + 1) (am_up τ2 78 s (mo + 0)) (by omega) (fun c k h1 h2 => (am_up_k (by omega)).trans (hfr2 c k h1 h2)) (⟨fun _ => by
  by_cases e : s = 0
  · subst e; rw [am_up_eq, hmo, wp_mx_0]; first | rfl | omega
  · rw [am_up_k (by omega), h78]; exact hch.1 (by omega), fun r h1 h2 => by
  by_cases e : r = s
  · rw [e, am_up_eq, wp_mx_congr (T := (am_up τ2 78 s _) 78) (T' := τ 78) (s := s) (by omega) P hPP (fun q hq => (am_up_k (by omega)).trans (h78 q)), ← hmo, ← hss]; omega
  · rw [am_up_k (by omega), h78, wp_mx_congr (T := (am_up τ2 78 s _) 78) (T' := τ 78) (s := r) (by omega) P hPP (fun q hq => (am_up_k (by omega)).trans (h78 q))]; exact hch.2 r h1 (by omega)⟩) (fun r hr => by by_cases e : r = s; (rw [e, am_up_eq]; omega); rw [am_up_k (by omega), h78]; exact hT r (by omega)) rfl
              · skip
                refine am_aload_n (x := 63) X (by rfl) dX10_wiped_130 ?_
                refine am_getr (c1 := 77) X 63 fl_X10_50 (by decide) sh_63 (by decide) (by rfl) dX10_wiped_131 ?_
                refine am_iload_n (x := (s : Int)) X (by rfl) dX10_wiped_134 ?_
                refine am_ald (v := τ2 77 s) X 77 s sh_77 (by omega) (by omega) (rfl) dX10_wiped_135 ?_
                refine am_if_ne (tgt := 143) X dX10_wiped_136 (by decide) (fun h136 => ?_) (fun h136 => ?_)
                · skip
                  refine am_ic X (by decide) dX10_wiped_143 ?_
                  refine am_add (v := (mo + 0)) X (by first | rfl | omega) (by omega) dX10_wiped_144 ?_
                  refine am_ast X 78 s sh_78 (by omega) (by omega) dX10_wiped_145 ?_
                  refine am_inc (x := (s : Int)) (v := ((s : Int) + 1)) (L' := [some (vr 63), some (vi ((s : Int) + 1)), some (vi mo), some (vi (q : Int)), none]) X (by rfl) (by omega) (by omega) (by rfl) dX10_wiped_146 ?_
                  refine am_goto (tgt := 2) X dX10_wiped_149 (by decide) ?_
                  refine am_fg [true, true, false, false, false] rfl (L' := [some (vr 63), some (vi ((s : Int) + 1)), none, none, none]) rfl ?_
                  exact ih2 _ (by omega) (s + 1) (am_up τ2 78 s (mo + 0)) (by omega) (fun c k h1 h2 => (am_up_k (by omega)).trans (hfr2 c k h1 h2)) (⟨fun _ => by
  by_cases e : s = 0
  · subst e; rw [am_up_eq, hmo, wp_mx_0]; first | rfl | omega
  · rw [am_up_k (by omega), h78]; exact hch.1 (by omega), fun r h1 h2 => by
  by_cases e : r = s
  · rw [e, am_up_eq, wp_mx_congr (T := (am_up τ2 78 s _) 78) (T' := τ 78) (s := s) (by omega) P hPP (fun q hq => (am_up_k (by omega)).trans (h78 q)), ← hmo, ← hss]; rw [if_neg (by omega)]
  · rw [am_up_k (by omega), h78, wp_mx_congr (T := (am_up τ2 78 s _) 78) (T' := τ 78) (s := r) (by omega) P hPP (fun q hq => (am_up_k (by omega)).trans (h78 q))]; exact hch.2 r h1 (by omega)⟩) (fun r hr => by by_cases e : r = s; (rw [e, am_up_eq]; omega); rw [am_up_k (by omega), h78]; exact hT r (by omega)) rfl
                · skip
                  refine am_ic X (by decide) dX10_wiped_139 ?_
                  refine am_goto (tgt := 144) X dX10_wiped_140 (by decide) ?_
                  refine am_add (v := (mo + 1)) X (by first | rfl | omega) (by omega) dX10_wiped_144 ?_
                  refine am_ast X 78 s sh_78 (by omega) (by omega) dX10_wiped_145 ?_
                  refine am_inc (x := (s : Int)) (v := ((s : Int) + 1)) (L' := [some (vr 63), some (vi ((s : Int) + 1)), some (vi mo), some (vi (q : Int)), none]) X (by rfl) (by omega) (by omega) (by rfl) dX10_wiped_146 ?_
                  refine am_goto (tgt := 2) X dX10_wiped_149 (by decide) ?_
                  refine am_fg [true, true, false, false, false] rfl (L' := [some (vr 63), some (vi ((s : Int) + 1)), none, none, none]) rfl ?_
                  exact ih2 _ (by omega) (s + 1) (am_up τ2 78 s (mo + 1)) (by omega) (fun c k h1 h2 => (am_up_k (by omega)).trans (hfr2 c k h1 h2)) (⟨fun _ => by
  by_cases e : s = 0
  · subst e; rw [am_up_eq, hmo, wp_mx_0]; first | rfl | omega
  · rw [am_up_k (by omega), h78]; exact hch.1 (by omega), fun r h1 h2 => by
  by_cases e : r = s
  · rw [e, am_up_eq, wp_mx_congr (T := (am_up τ2 78 s _) 78) (T' := τ 78) (s := s) (by omega) P hPP (fun q hq => (am_up_k (by omega)).trans (h78 q)), ← hmo, ← hss]; rw [if_pos (by omega)]
  · rw [am_up_k (by omega), h78, wp_mx_congr (T := (am_up τ2 78 s _) 78) (T' := τ 78) (s := r) (by omega) P hPP (fun q hq => (am_up_k (by omega)).trans (h78 q))]; exact hch.2 r h1 (by omega)⟩) (fun r hr => by by_cases e : r = s; (rw [e, am_up_eq]; omega); rw [am_up_k (by omega), h78]; exact hT r (by omega)) rfl
            · skip
              refine am_iload_n (x := (s : Int)) X (by rfl) dX10_wiped_74 ?_
              refine am_iload_n (x := (q : Int)) X (by rfl) dX10_wiped_75 ?_
              refine am_ishr X dX10_wiped_76 ?_
              refine am_ic X (by decide) dX10_wiped_77 ?_
              refine am_iand X dX10_wiped_78 ?_
              refine am_ic X (by decide) dX10_wiped_79 ?_
              refine am_icmp_ne (tgt := 98) X dX10_wiped_80 (by decide) (fun h80 => ?_) (fun h80 => ?_)
              · skip
                refine am_ic X (by decide) dX10_wiped_98 ?_
                refine am_istore (i := 4) (L' := [some (vr 63), some (vi (s : Int)), some (vi mo), some (vi (q : Int)), some (vi 0)]) X (Nat.le_of_ble_eq_true rfl) (by rfl) dX10_wiped_99 ?_
                refine am_iload (x := 0) X (by rfl) dX10_wiped_101 ?_
                refine am_iload_n (x := mo) X (by rfl) dX10_wiped_103 ?_
                refine am_icmp_le (tgt := 112) X dX10_wiped_104 (by decide) (fun h104 => ?_) (fun h104 => ?_)
                · skip
                  refine am_iload_n (x := mo) X (by rfl) dX10_wiped_112 ?_
                  refine am_istore_n (i := 2) (L' := [some (vr 63), some (vi (s : Int)), some (vi mo), some (vi (q : Int)), some (vi 0)]) X rfl (Nat.le_of_ble_eq_true rfl) (by rfl) dX10_wiped_113 ?_
                  refine am_inc (x := (q : Int)) (v := ((q : Int) + 1)) (L' := [some (vr 63), some (vi (s : Int)), some (vi mo), some (vi ((q : Int) + 1)), some (vi 0)]) X (by rfl) (by omega) (by omega) (by rfl) dX10_wiped_114 ?_
                  refine am_goto (tgt := 66) X dX10_wiped_117 (by decide) ?_
                  refine am_fg [true, true, true, true, false] rfl (L' := [some (vr 63), some (vi (s : Int)), some (vi mo), some (vi ((q : Int) + 1)), none]) rfl ?_
                  exact ih66 _ (by omega) (q + 1) mo (by omega) (by unfold wp_mx at hmo ⊢; rw [am_it_succ, ← hmo, if_neg (by have := wb_01 (s : Int) q; have hbt : am_bit (s : Int) q = am_and (am_shr (s : Int) (q : Int)) 1 := rfl; omega)]) rfl
                · skip
                  refine am_iload (x := 0) X (by rfl) dX10_wiped_107 ?_
                  refine am_goto (tgt := 113) X dX10_wiped_109 (by decide) ?_
                  refine am_istore_n (i := 2) (L' := [some (vr 63), some (vi (s : Int)), some (vi 0), some (vi (q : Int)), some (vi 0)]) X rfl (Nat.le_of_ble_eq_true rfl) (by rfl) dX10_wiped_113 ?_
                  refine am_inc (x := (q : Int)) (v := ((q : Int) + 1)) (L' := [some (vr 63), some (vi (s : Int)), some (vi 0), some (vi ((q : Int) + 1)), some (vi 0)]) X (by rfl) (by omega) (by omega) (by rfl) dX10_wiped_114 ?_
                  refine am_goto (tgt := 66) X dX10_wiped_117 (by decide) ?_
                  refine am_fg [true, true, true, true, false] rfl (L' := [some (vr 63), some (vi (s : Int)), some (vi 0), some (vi ((q : Int) + 1)), none]) rfl ?_
                  exact ih66 _ (by omega) (q + 1) 0 (by omega) (by exfalso; omega) rfl
              · skip
                have hbn : am_bit (s : Int) q ≠ 0 := by have hbt : am_bit (s : Int) q = am_and (am_shr (s : Int) (q : Int)) 1 := rfl; omega
                obtain ⟨x1, x2, x3, x4, x5⟩ := wb_x ⟨s, by omega⟩ ⟨q, by omega⟩ hbn
                obtain ⟨rs, hrs⟩ : ∃ rs : Nat, s - 2 ^ q = rs := ⟨_, rfl⟩
                have x2 : am_and (s : Int) (am_xor (am_shl 1 (q : Int)) (-1)) = ((s - 2 ^ q : Nat) : Int) := x2
                have x3 : s - 2 ^ q < s := x3
                rw [hrs] at x2 x3
                have hvT := hT rs (by omega)
                have hv78 := h78 rs
                refine am_aload_n (x := 63) X (by rfl) dX10_wiped_83 ?_
                refine am_getr (c1 := 78) X 63 fl_X10_53 (by decide) sh_63 (by decide) (by rfl) dX10_wiped_84 ?_
                refine am_iload_n (x := (s : Int)) X (by rfl) dX10_wiped_87 ?_
                refine am_ic X (by decide) dX10_wiped_88 ?_
                refine am_iload_n (x := (q : Int)) X (by rfl) dX10_wiped_89 ?_
                refine am_ishl X dX10_wiped_90 ?_
                refine am_ic X (by decide) dX10_wiped_91 ?_
                refine am_ixor X dX10_wiped_92 ?_
                refine am_iand X dX10_wiped_93 ?_
                refine am_ald (v := τ2 78 rs) X 78 rs sh_78 (by omega) (by omega) (rfl) dX10_wiped_94 ?_
                refine am_goto (tgt := 99) X dX10_wiped_95 (by decide) ?_
                refine am_istore (i := 4) (L' := [some (vr 63), some (vi (s : Int)), some (vi mo), some (vi (q : Int)), some (vi (τ2 78 rs))]) X (Nat.le_of_ble_eq_true rfl) (by rfl) dX10_wiped_99 ?_
                refine am_iload (x := τ2 78 rs) X (by rfl) dX10_wiped_101 ?_
                refine am_iload_n (x := mo) X (by rfl) dX10_wiped_103 ?_
                refine am_icmp_le (tgt := 112) X dX10_wiped_104 (by decide) (fun h104 => ?_) (fun h104 => ?_)
                · skip
                  refine am_iload_n (x := mo) X (by rfl) dX10_wiped_112 ?_
                  refine am_istore_n (i := 2) (L' := [some (vr 63), some (vi (s : Int)), some (vi mo), some (vi (q : Int)), some (vi (τ2 78 rs))]) X rfl (Nat.le_of_ble_eq_true rfl) (by rfl) dX10_wiped_113 ?_
                  refine am_inc (x := (q : Int)) (v := ((q : Int) + 1)) (L' := [some (vr 63), some (vi (s : Int)), some (vi mo), some (vi ((q : Int) + 1)), some (vi (τ2 78 rs))]) X (by rfl) (by omega) (by omega) (by rfl) dX10_wiped_114 ?_
                  refine am_goto (tgt := 66) X dX10_wiped_117 (by decide) ?_
                  refine am_fg [true, true, true, true, false] rfl (L' := [some (vr 63), some (vi (s : Int)), some (vi mo), some (vi ((q : Int) + 1)), none]) rfl ?_
                  exact ih66 _ (by omega) (q + 1) mo (by omega) (by unfold wp_mx at hmo ⊢; rw [am_it_succ, ← hmo, if_pos hbn, hrs, ← h78 rs, if_neg (by omega)]) rfl
                · skip
                  refine am_iload (x := τ2 78 rs) X (by rfl) dX10_wiped_107 ?_
                  refine am_goto (tgt := 113) X dX10_wiped_109 (by decide) ?_
                  refine am_istore_n (i := 2) (L' := [some (vr 63), some (vi (s : Int)), some (vi (τ2 78 rs)), some (vi (q : Int)), some (vi (τ2 78 rs))]) X rfl (Nat.le_of_ble_eq_true rfl) (by rfl) dX10_wiped_113 ?_
                  refine am_inc (x := (q : Int)) (v := ((q : Int) + 1)) (L' := [some (vr 63), some (vi (s : Int)), some (vi (τ2 78 rs)), some (vi ((q : Int) + 1)), some (vi (τ2 78 rs))]) X (by rfl) (by omega) (by omega) (by rfl) dX10_wiped_114 ?_
                  refine am_goto (tgt := 66) X dX10_wiped_117 (by decide) ?_
                  refine am_fg [true, true, true, true, false] rfl (L' := [some (vr 63), some (vi (s : Int)), some (vi (τ2 78 rs)), some (vi ((q : Int) + 1)), none]) rfl ?_
                  exact ih66 _ (by omega) (q + 1) (τ2 78 rs) (by omega) (by unfold wp_mx at hmo ⊢; rw [am_it_succ, ← hmo, if_pos hbn, hrs, ← h78 rs, if_pos (by omega)]) rfl
          exact hL66 _ 0 0 (Nat.zero_le _) (rfl) rfl
        · skip
          refine am_aload_n (x := 63) X (by rfl) dX10_wiped_29 ?_
          refine am_getr (c1 := 77) X 63 fl_X10_50 (by decide) sh_63 (by decide) (by rfl) dX10_wiped_30 ?_
          refine am_iload_n (x := (s : Int)) X (by rfl) dX10_wiped_33 ?_
          refine am_dup2 X (Nat.ne_of_beq_eq_false rfl) (Nat.ne_of_beq_eq_false rfl) dX10_wiped_34 ?_
          refine am_ald (v := τ2 77 s) X 77 s sh_77 (by omega) (by omega) (rfl) dX10_wiped_35 ?_
          refine am_iload_n (x := (s : Int)) X (by rfl) dX10_wiped_36 ?_
          refine am_iload_n (x := (p : Int)) X (by rfl) dX10_wiped_37 ?_
          refine am_ishr X dX10_wiped_38 ?_
          refine am_ic X (by decide) dX10_wiped_39 ?_
          refine am_iand X dX10_wiped_40 ?_
          refine am_ic X (by decide) dX10_wiped_41 ?_
          refine am_icmp_ne (tgt := 53) X dX10_wiped_42 (by decide) (fun h42 => ?_) (fun h42 => ?_)
          · skip
            refine am_ic X (by decide) dX10_wiped_53 ?_
            refine am_add (v := (τ2 77 s + 0)) X (by first | rfl | omega) (by omega) dX10_wiped_54 ?_
            refine am_ast X 77 s sh_77 (by omega) (by omega) dX10_wiped_55 ?_
            refine am_inc (x := (p : Int)) (v := ((p : Int) + 1)) (L' := [some (vr 63), some (vi (s : Int)), some (vi ((p : Int) + 1)), none, none]) X (by rfl) (by omega) (by omega) (by rfl) dX10_wiped_56 ?_
            refine am_goto (tgt := 21) X dX10_wiped_59 (by decide) ?_
            exact ih21 _ (by omega) (p + 1) (am_up τ2 77 s (τ2 77 s + 0)) (by omega) (by rw [am_up_eq]; show _ = am_sum _ p + (if am_bit (s : Int) p ≠ 0 then md_net σ p else 0); rw [if_neg (by have := wb_01 (s : Int) p; have hbt : am_bit (s : Int) p = am_and (am_shr (s : Int) (p : Int)) 1 := rfl; omega), hsum]; unfold wp_sm; omega) (fun c k h1 h2 => (am_up_k (by omega)).trans (hfr2 c k h1 h2)) (fun k => (am_up_k (by omega)).trans (h78 k)) rfl
          · skip
            refine am_aload_n (x := 63) X (by rfl) dX10_wiped_45 ?_
            refine am_iload_n (x := (p : Int)) X (by rfl) dX10_wiped_46 ?_
            refine am_callVi (ci := 9) X hY lk_X10_278 mf_X10_balanceOfAny (m_X10_balanceOfAny p τ2 (by rw [hfr2 63 7 (by decide) (by decide)]; exact hc) (fun n hn => by rw [hfr2 63 7 (by decide) (by decide)] at hn; rw [hfr2 68 _ (by decide) (by decide)]; exact hd n hn)) (by decide) (by decide) (Nat.le_refl _) (Nat.le_refl _) sh_63 rfl rfl rfl (Nat.le_of_ble_eq_true rfl) dX10_wiped_47 (fun r47 sh47 σ47 hr47 hp47 => ?_)
            obtain ⟨rfl, rfl, hq47⟩ := hp47
            rw [md_net_fr hfr2] at hq47
            refine am_goto (tgt := 54) X dX10_wiped_50 (by decide) ?_
            refine am_add (v := (τ2 77 s + r47)) X (by first | rfl | omega) (by omega) dX10_wiped_54 ?_
            refine am_ast X 77 s sh_77 (by omega) (by omega) dX10_wiped_55 ?_
            refine am_inc (x := (p : Int)) (v := ((p : Int) + 1)) (L' := [some (vr 63), some (vi (s : Int)), some (vi ((p : Int) + 1)), none, none]) X (by rfl) (by omega) (by omega) (by rfl) dX10_wiped_56 ?_
            refine am_goto (tgt := 21) X dX10_wiped_59 (by decide) ?_
            exact ih21 _ (by omega) (p + 1) (am_up τ2 77 s (τ2 77 s + r47)) (by omega) (by rw [am_up_eq]; show _ = am_sum _ p + (if am_bit (s : Int) p ≠ 0 then md_net σ p else 0); rw [if_pos (by have := wb_01 (s : Int) p; have hbt : am_bit (s : Int) p = am_and (am_shr (s : Int) (p : Int)) 1 := rfl; omega), hsum]; unfold wp_sm; omega) (fun c k h1 h2 => (am_up_k (by omega)).trans (hfr2 c k h1 h2)) (fun k => (am_up_k (by omega)).trans (h78 k)) rfl
      exact hL21 _ 0 _ (Nat.zero_le _) (by rw [am_up_eq]; rfl) (fun c k h1 h2 => (am_up_k (by omega)).trans (hfr c k h1 h2)) (fun k => am_up_k (by omega)) rfl
  exact hL2 _ 0 σ (by omega) (fun c k h1 h2 => rfl) (⟨fun h => absurd h (Nat.lt_irrefl 0), fun r h1 h2 => absurd h2 (Nat.not_lt_zero _)⟩) (fun r h => absurd h (Nat.not_lt_zero _)) rfl
