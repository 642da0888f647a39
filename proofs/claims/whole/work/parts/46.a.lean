set_option maxHeartbeats 4000000 in
set_option maxRecDepth 100000 in
theorem m_X10_free (a b : Int) (σ : am_H) (hp : 0 ≤ σ 63 6 ∧ σ 63 6 ≤ 8) (hc : 0 ≤ σ 63 7 ∧ σ 63 7 ≤ 20) (hd : ∀ n : Nat, (n : Int) < σ 63 7 → 0 ≤ σ 68 (5 * n + 2) ∧ σ 68 (5 * n + 2) ≤ 9) (hn : 0 ≤ σ 63 9 ∧ σ 63 9 ≤ 48) : am_Mi yX10_free cX10_free 5 (some .int) 2 0 0 [vr 63, vi a, vi b] SH σ (fun r sh' σ' => SH = sh' ∧ σ = σ' ∧ r = (if (0 ≤ a ∧ a < σ 63 6) ∧ 0 ≤ b ∧ b ≤ 47 then am_sum (fun n : Nat => if (σ 63 9 + 3 + (n : Int)) % 4 = 3 then 0 else 1) (b + 1 - (σ 63 9 + 3)).toNat - md_by σ a else -2000000000)) := by
  refine am_Mi_of (by decide +kernel) (Nat.le_of_ble_eq_true rfl) (fun K X hY hI hret => ?_)
  show am_G K 0 [some (vr 63), some (vi a), some (vi b), none, none] [] SH σ
  refine am_aload_n (x := 63) X (by rfl) dX10_free_0 ?_
  refine am_iload_n (x := a) X (by rfl) dX10_free_1 ?_
  refine am_callVi (ci := 9) X hY lk_X10_107 mf_X10_isPerson (m_X10_isPerson a σ hp) (by decide) (by decide) (Nat.le_refl _) (Nat.le_refl _) sh_63 rfl rfl rfl (Nat.le_of_ble_eq_true rfl) dX10_free_2 (fun r2 sh2 σ2 hr2 hp2 => ?_)
  obtain ⟨rfl, rfl, hq2⟩ := hp2
  refine am_if_eq (tgt := 15) X dX10_free_5 (by decide) (fun h5 => ?_) (fun h5 => ?_)
  · skip
    refine am_ldc X (n := -2000000000) (by unfold R32; decide) cn_X10_149 dX10_free_15 ?_
    exact hret _ _ _ _ _ dX10_free_17 rfl rfl (by refine ⟨rfl, rfl, ?_⟩; (try rw [hs] at *); (try rw [show (b + 1 - (σ 63 9 + 3)).toNat = k by omega]); unfold md_by; (repeat' split) <;> first | omega | assumption)
  · skip
    refine am_iload_n (x := b) X (by rfl) dX10_free_8 ?_
    refine am_callSi X hY lk_X10_224 mf_X10_isDay (m_X10_isDay b _ σ) (by decide) (by decide) (Nat.le_refl _) (Nat.le_refl _) rfl rfl (Nat.le_of_ble_eq_true rfl) dX10_free_9 (fun r9 sh9 σ9 hr9 hp9 => ?_)
    obtain ⟨rfl, rfl, hq9⟩ := hp9
    refine am_if_ne (tgt := 18) X dX10_free_12 (by decide) (fun h12 => ?_) (fun h12 => ?_)
    · skip
      refine am_ic X (by decide) dX10_free_18 ?_
      refine am_istore_n (i := 3) (L' := [some (vr 63), some (vi a), some (vi b), some (vi 0), none]) X rfl (Nat.le_of_ble_eq_true rfl) (by rfl) dX10_free_19 ?_
      refine am_aload_n (x := 63) X (by rfl) dX10_free_20 ?_
      refine am_get (v := σ 63 9) X 63 fl_X10_231 (by decide) sh_63 (by decide) (rfl) dX10_free_21 ?_
      refine am_ic X (by decide) dX10_free_24 ?_
      refine am_add (v := (σ 63 9 + 3)) X (by first | rfl | omega) (by omega) dX10_free_25 ?_
      refine am_istore (i := 4) (L' := [some (vr 63), some (vi a), some (vi b), some (vi 0), some (vi (σ 63 9 + 3))]) X (Nat.le_of_ble_eq_true rfl) (by rfl) dX10_free_26 ?_
      have hL28 : ∀ (m28 : Nat) (k : Nat) (s : Int) (dv : Int) (hdv : dv = σ 63 9 + 3 + (k : Int)) (hk : k ≤ (b + 1 - (σ 63 9 + 3)).toNat) (hs : s = am_sum (fun n : Nat => if (σ 63 9 + 3 + (n : Int)) % 4 = 3 then 0 else 1) k) (hm28 : (b + 1 - (σ 63 9 + 3)).toNat - k = m28), am_G K 28 [some (vr 63), some (vi a), some (vi b), some (vi s), some (vi dv)] [] SH σ := by
        intro m28
        induction m28 using Nat.strongRecOn with
        | ind m28 ih28 =>
        intro k s dv hdv hk hs hm28
        have hb := am_sum_1 (f := (fun n : Nat => if (σ 63 9 + 3 + (n : Int)) % 4 = 3 then 0 else 1)) (n := k) (fun j hj => by (repeat' split) <;> omega)
        refine am_iload (x := dv) X (by rfl) dX10_free_28 ?_
        refine am_iload_n (x := b) X (by rfl) dX10_free_30 ?_
        refine am_icmp_gt (tgt := 56) X dX10_free_31 (by decide) (fun h31 => ?_) (fun h31 => ?_)
        · skip
          refine am_iload_n (x := s) X (by rfl) dX10_free_56 ?_
          refine am_aload_n (x := 63) X (by rfl) dX10_free_57 ?_
          refine am_iload_n (x := a) X (by rfl) dX10_free_58 ?_
          refine am_ic X (by decide) dX10_free_59 ?_
          refine am_callVi (ci := 9) X hY lk_X10_141 mf_X10_sumOf (m_X10_sumOf_0 a σ hc hd) (by decide) (by decide) (Nat.le_refl _) (Nat.le_refl _) sh_63 rfl rfl rfl (Nat.le_of_ble_eq_true rfl) dX10_free_60 (fun r60 sh60 σ60 hr60 hp60 => ?_)
          obtain ⟨rfl, rfl, hq60⟩ := hp60
          refine am_sub (v := (s - r60)) X (by first | rfl | omega) (by omega) dX10_free_63 ?_
          exact hret _ _ _ _ _ dX10_free_64 rfl rfl (by refine ⟨rfl, rfl, ?_⟩; (try rw [hs] at *); (try rw [show (b + 1 - (σ 63 9 + 3)).toNat = k by omega]); unfold md_by; (repeat' split) <;> first | omega | assumption)
        · skip
          refine am_iload_n (x := s) X (by rfl) dX10_free_34 ?_
          refine am_iload (x := dv) X (by rfl) dX10_free_35 ?_
          refine am_callSi X hY lk_X10_234 mf_X10_isHoly (m_X10_isHoly dv (by omega) _ σ) (by decide) (by decide) (Nat.le_refl _) (Nat.le_refl _) rfl rfl (Nat.le_of_ble_eq_true rfl) dX10_free_37 (fun r37 sh37 σ37 hr37 hp37 => ?_)
          obtain ⟨rfl, rfl, hq37⟩ := hp37
          refine am_if_eq (tgt := 47) X dX10_free_40 (by decide) (fun h40 => ?_) (fun h40 => ?_)
          · skip
            refine am_ic X (by decide) dX10_free_47 ?_
            refine am_add (v := (s + 1)) X (by first | rfl | omega) (by omega) dX10_free_48 ?_
            refine am_istore_n (i := 3) (L' := [some (vr 63), some (vi a), some (vi b), some (vi (s + 1)), some (vi dv)]) X rfl (Nat.le_of_ble_eq_true rfl) (by rfl) dX10_free_49 ?_
            refine am_inc (x := dv) (v := (dv + 1)) (L' := [some (vr 63), some (vi a), some (vi b), some (vi (s + 1)), some (vi (dv + 1))]) X (by rfl) (by omega) (by omega) (by rfl) dX10_free_50 ?_
            refine am_goto (tgt := 28) X dX10_free_53 (by decide) ?_
            exact ih28 _ (by omega) (k + 1) _ _ (by omega) (by omega) (by (try subst s); show _ = am_sum (fun n : Nat => if (σ 63 9 + 3 + (n : Int)) % 4 = 3 then 0 else 1) k + (if _ then _ else _); first | (rw [if_pos (by omega)]; done) | (rw [if_neg (by omega)]; done)) rfl
          · skip
            refine am_ic X (by decide) dX10_free_43 ?_
            refine am_goto (tgt := 48) X dX10_free_44 (by decide) ?_
            refine am_add (v := (s + 0)) X (by first | rfl | omega) (by omega) dX10_free_48 ?_
            refine am_istore_n (i := 3) (L' := [some (vr 63), some (vi a), some (vi b), some (vi (s + 0)), some (vi dv)]) X rfl (Nat.le_of_ble_eq_true rfl) (by rfl) dX10_free_49 ?_
            refine am_inc (x := dv) (v := (dv + 1)) (L' := [some (vr 63), some (vi a), some (vi b), some (vi (s + 0)), some (vi (dv + 1))]) X (by rfl) (by omega) (by omega) (by rfl) dX10_free_50 ?_
            refine am_goto (tgt := 28) X dX10_free_53 (by decide) ?_
            exact ih28 _ (by omega) (k + 1) _ _ (by omega) (by omega) (by (try subst s); show _ = am_sum (fun n : Nat => if (σ 63 9 + 3 + (n : Int)) % 4 = 3 then 0 else 1) k + (if _ then _ else _); first | (rw [if_pos (by omega)]; done) | (rw [if_neg (by omega)]; done)) rfl
      exact hL28 _ 0 0 (σ 63 9 + 3) (by omega) (by omega) (rfl) rfl
    · skip
      refine am_ldc X (n := -2000000000) (by unfold R32; decide) cn_X10_149 dX10_free_15 ?_
      exact hret _ _ _ _ _ dX10_free_17 rfl rfl (by refine ⟨rfl, rfl, ?_⟩; (try rw [hs] at *); (try rw [show (b + 1 - (σ 63 9 + 3)).toNat = k by omega]); unfold md_by; (repeat' split) <;> first | omega | assumption)

set_option maxHeartbeats 4000000 in
set_option maxRecDepth 100000 in
theorem m_X10_kindOf (a : Int) (k : Nat) (ha : a = k) (hk : k < 50) (σ : am_H) : am_Mi yX10_kindOf cX10_kindOf 2 (some .int) 0 0 0 [vr 63, vi a] SH σ (fun r sh' σ' => SH = sh' ∧ σ = σ' ∧ r = σ 84 k) := by
  refine am_Mi_of (by decide +kernel) (Nat.le_of_ble_eq_true rfl) (fun K X hY hI hret => ?_)
  show am_G K 0 [some (vr 63), some (vi a)] [] SH σ
  refine am_aload_n (x := 63) X (by rfl) dX10_kindOf_0 ?_
  refine am_getr (c1 := 84) X 63 fl_X10_71 (by decide) sh_63 (by decide) (by rfl) dX10_kindOf_1 ?_
  refine am_iload_n (x := a) X (by rfl) dX10_kindOf_4 ?_
  refine am_ald (v := σ 84 k) X 84 k sh_84 (by omega) (by omega) (rfl) dX10_kindOf_5 ?_
  exact hret _ _ _ _ _ dX10_kindOf_6 rfl rfl (⟨rfl, rfl, rfl⟩)

set_option maxHeartbeats 4000000 in
set_option maxRecDepth 100000 in
theorem m_X10_above (a : Int) (sh : List am_S) (σ : am_H) : am_Mi yX10_above cX10_above 1 (some .int) 0 0 0 [vi a] sh σ (fun r sh' σ' => sh = sh' ∧ σ = σ' ∧ r = md_above a) := by
  refine am_Mi_of (by decide +kernel) (Nat.le_of_ble_eq_true rfl) (fun K X hY hI hret => ?_)
  show am_G K 0 [some (vi a)] [] sh σ
  refine am_iload_n (x := a) X (by rfl) dX10_above_0 ?_
  refine am_ic X (by decide) dX10_above_1 ?_
  refine am_icmp_ne (tgt := 9) X dX10_above_2 (by decide) (fun h2 => ?_) (fun h2 => ?_)
  · skip
    refine am_iload_n (x := a) X (by rfl) dX10_above_9 ?_
    refine am_ic X (by decide) dX10_above_10 ?_
    refine am_icmp_ne (tgt := 18) X dX10_above_11 (by decide) (fun h11 => ?_) (fun h11 => ?_)
    · skip
      refine am_iload_n (x := a) X (by rfl) dX10_above_18 ?_
      refine am_ic X (by decide) dX10_above_19 ?_
      refine am_icmp_ne (tgt := 27) X dX10_above_20 (by decide) (fun h20 => ?_) (fun h20 => ?_)
      · skip
        refine am_iload_n (x := a) X (by rfl) dX10_above_27 ?_
        refine am_bipush X (by decide) dX10_above_28 ?_
        refine am_icmp_ne (tgt := 37) X dX10_above_30 (by decide) (fun h30 => ?_) (fun h30 => ?_)
        · skip
          refine am_ic X (by decide) dX10_above_37 ?_
          exact hret _ _ _ _ _ dX10_above_38 rfl rfl (by refine ⟨rfl, rfl, ?_⟩; unfold md_above; (repeat' split) <;> first | omega | assumption)
        · skip
          refine am_ic X (by decide) dX10_above_33 ?_
          refine am_goto (tgt := 38) X dX10_above_34 (by decide) ?_
          exact hret _ _ _ _ _ dX10_above_38 rfl rfl (by refine ⟨rfl, rfl, ?_⟩; unfold md_above; (repeat' split) <;> first | omega | assumption)
      · skip
        refine am_ic X (by decide) dX10_above_23 ?_
        refine am_goto (tgt := 38) X dX10_above_24 (by decide) ?_
        exact hret _ _ _ _ _ dX10_above_38 rfl rfl (by refine ⟨rfl, rfl, ?_⟩; unfold md_above; (repeat' split) <;> first | omega | assumption)
    · skip
      refine am_ic X (by decide) dX10_above_14 ?_
      refine am_goto (tgt := 38) X dX10_above_15 (by decide) ?_
      exact hret _ _ _ _ _ dX10_above_38 rfl rfl (by refine ⟨rfl, rfl, ?_⟩; unfold md_above; (repeat' split) <;> first | omega | assumption)
  · skip
    refine am_ic X (by decide) dX10_above_5 ?_
    refine am_goto (tgt := 38) X dX10_above_6 (by decide) ?_
    exact hret _ _ _ _ _ dX10_above_38 rfl rfl (by refine ⟨rfl, rfl, ?_⟩; unfold md_above; (repeat' split) <;> first | omega | assumption)

set_option maxHeartbeats 4000000 in
set_option maxRecDepth 100000 in
theorem m_X10_refusal (a i : Int) (σ : am_H) (hs : MshV σ) : am_Mi yX10_refusal cX10_refusal 3 (some .int) 2 0 0 [vr 63, vi a, vi i] SH σ (fun r sh' σ' => SH = sh' ∧ σ = σ' ∧ r = md_refusal σ a i) := by
  refine am_Mi_of (by decide +kernel) (Nat.le_of_ble_eq_true rfl) (fun K X hY hI hret => ?_)
  show am_G K 0 [some (vr 63), some (vi a), some (vi i)] [] SH σ
  refine am_iload_n (x := a) X (by rfl) dX10_refusal_0 ?_
  refine am_callSi X hY lk_X10_128 mf_X10_isShelf (m_X10_isShelf a _ σ) (by decide) (by decide) (Nat.le_refl _) (Nat.le_refl _) rfl rfl (Nat.le_of_ble_eq_true rfl) dX10_refusal_1 (fun r1 sh1 σ1 hr1 hp1 => ?_)
  obtain ⟨rfl, rfl, hq1⟩ := hp1
  refine am_if_ne (tgt := 9) X dX10_refusal_4 (by decide) (fun h4 => ?_) (fun h4 => ?_)
  · skip
    refine am_aload_n (x := 63) X (by rfl) dX10_refusal_9 ?_
    refine am_getr (c1 := 86) X 63 fl_X10_77 (by decide) sh_63 (by decide) (by rfl) dX10_refusal_10 ?_
    refine am_iload_n (x := a) X (by rfl) dX10_refusal_13 ?_
    refine am_ald (v := σ 86 ((a).toNat)) X 86 ((a).toNat) sh_86 (by omega) (by omega) (rfl) dX10_refusal_14 ?_
    refine am_if_ge (tgt := 21) X dX10_refusal_15 (by decide) (fun h15 => ?_) (fun h15 => ?_)
    · skip
      refine am_aload_n (x := 63) X (by rfl) dX10_refusal_21 ?_
      refine am_getr (c1 := 86) X 63 fl_X10_77 (by decide) sh_63 (by decide) (by rfl) dX10_refusal_22 ?_
      refine am_iload_n (x := a) X (by rfl) dX10_refusal_25 ?_
      refine am_ald (v := σ 86 ((a).toNat)) X 86 ((a).toNat) sh_86 (by omega) (by omega) (rfl) dX10_refusal_26 ?_
      refine am_bipush X (by decide) dX10_refusal_27 ?_
      refine am_icmp_ge (tgt := 35) X dX10_refusal_29 (by decide) (fun h29 => ?_) (fun h29 => ?_)
      · skip
        refine am_iload_n (x := i) X (by rfl) dX10_refusal_35 ?_
        refine am_if_lt (tgt := 53) X dX10_refusal_36 (by decide) (fun h36 => ?_) (fun h36 => ?_)
        · skip
          refine am_bipush X (by decide) dX10_refusal_53 ?_
          exact hret _ _ _ _ _ dX10_refusal_55 rfl rfl (by refine ⟨rfl, rfl, ?_⟩; unfold md_refusal; (repeat' split) <;> first | omega | assumption)
        · skip
          refine am_iload_n (x := i) X (by rfl) dX10_refusal_39 ?_
          refine am_aload_n (x := 63) X (by rfl) dX10_refusal_40 ?_
          refine am_getr (c1 := 87) X 63 fl_X10_80 (by decide) sh_63 (by decide) (by rfl) dX10_refusal_41 ?_
          refine am_iload_n (x := a) X (by rfl) dX10_refusal_44 ?_
          refine am_ald (v := σ 87 ((a).toNat)) X 87 ((a).toNat) sh_87 (by omega) (by omega) (rfl) dX10_refusal_45 ?_
          refine am_icmp_ge (tgt := 53) X dX10_refusal_46 (by decide) (fun h46 => ?_) (fun h46 => ?_)
          · skip
            refine am_bipush X (by decide) dX10_refusal_53 ?_
            exact hret _ _ _ _ _ dX10_refusal_55 rfl rfl (by refine ⟨rfl, rfl, ?_⟩; unfold md_refusal; (repeat' split) <;> first | omega | assumption)
          · skip
            refine am_ic X (by decide) dX10_refusal_49 ?_
            refine am_goto (tgt := 55) X dX10_refusal_50 (by decide) ?_
            exact hret _ _ _ _ _ dX10_refusal_55 rfl rfl (by refine ⟨rfl, rfl, ?_⟩; unfold md_refusal; (repeat' split) <;> first | omega | assumption)
      · skip
        refine am_bipush X (by decide) dX10_refusal_32 ?_
        exact hret _ _ _ _ _ dX10_refusal_34 rfl rfl (by refine ⟨rfl, rfl, ?_⟩; unfold md_refusal; (repeat' split) <;> first | omega | assumption)
    · skip
      refine am_bipush X (by decide) dX10_refusal_18 ?_
      exact hret _ _ _ _ _ dX10_refusal_20 rfl rfl (by refine ⟨rfl, rfl, ?_⟩; unfold md_refusal; (repeat' split) <;> first | omega | assumption)
  · skip
    refine am_ic X (by decide) dX10_refusal_7 ?_
    exact hret _ _ _ _ _ dX10_refusal_8 rfl rfl (by refine ⟨rfl, rfl, ?_⟩; unfold md_refusal; (repeat' split) <;> first | omega | assumption)

set_option maxHeartbeats 4000000 in
set_option maxRecDepth 100000 in
theorem m_X10_asSort (s v : Int) (sh : List am_S) (σ : am_H) : am_Ml yX10_asSort cX10_asSort 3 (some .long) 0 0 0 [vi s, vl v] sh σ (fun r sh' σ' => sh = sh' ∧ σ = σ' ∧ r = sf_as s v) := by
  refine am_Ml_of (by decide +kernel) (Nat.le_of_ble_eq_true rfl) (fun K X hY hI hret => ?_)
  show am_G K 0 [some (vi s), some (vl v), none] [] sh σ
  refine am_iload_n (x := s) X (by rfl) dX10_asSort_0 ?_
  refine am_if_ne (tgt := 11) X dX10_asSort_1 (by decide) (fun h1 => ?_) (fun h1 => ?_)
  · skip
    refine am_iload_n (x := s) X (by rfl) dX10_asSort_11 ?_
    refine am_ic X (by decide) dX10_asSort_12 ?_
    refine am_icmp_ne (tgt := 23) X dX10_asSort_13 (by decide) (fun h13 => ?_) (fun h13 => ?_)
    · skip
      refine am_iload_n (x := s) X (by rfl) dX10_asSort_23 ?_
      refine am_ic X (by decide) dX10_asSort_24 ?_
      refine am_icmp_ne (tgt := 34) X dX10_asSort_25 (by decide) (fun h25 => ?_) (fun h25 => ?_)
      · skip
        refine am_iload_n (x := s) X (by rfl) dX10_asSort_34 ?_
        refine am_ic X (by decide) dX10_asSort_35 ?_
        refine am_icmp_ne (tgt := 53) X dX10_asSort_36 (by decide) (fun h36 => ?_) (fun h36 => ?_)
        · skip
          refine am_lload_n (x := v) X (by rfl) dX10_asSort_53 ?_
          exact hret _ _ _ _ _ dX10_asSort_54 rfl rfl (by refine ⟨rfl, rfl, ?_⟩; unfold sf_as; (repeat' split) <;> first | rfl | omega)
        · skip
          refine am_lload_n (x := v) X (by rfl) dX10_asSort_39 ?_
          refine am_lc (v := 0) X (by rfl) dX10_asSort_40 ?_
          refine am_lcmp X dX10_asSort_41 ?_
          refine am_topi (fun y41 hy41 => ?_)
          have hc41 : (y41 = 1 ∧ 0 < v) ∨ (y41 = 0 ∧ v = 0) ∨ (y41 = -1 ∧ v < 0) := by rw [hy41]; split <;> (try split) <;> omega
          clear hy41
          refine am_if_eq (tgt := 49) X dX10_asSort_42 (by decide) (fun h42 => ?_) (fun h42 => ?_)
          · skip
            refine am_lc (v := 0) X (by rfl) dX10_asSort_49 ?_
            refine am_goto (tgt := 54) X dX10_asSort_50 (by decide) ?_
            exact hret _ _ _ _ _ dX10_asSort_54 rfl rfl (by refine ⟨rfl, rfl, ?_⟩; unfold sf_as; (repeat' split) <;> first | rfl | omega)
          · skip
            refine am_lc (v := 1) X (by rfl) dX10_asSort_45 ?_
            refine am_goto (tgt := 54) X dX10_asSort_46 (by decide) ?_
            exact hret _ _ _ _ _ dX10_asSort_54 rfl rfl (by refine ⟨rfl, rfl, ?_⟩; unfold sf_as; (repeat' split) <;> first | rfl | omega)
      · skip
        refine am_lload_n (x := v) X (by rfl) dX10_asSort_28 ?_
        refine am_l2i X dX10_asSort_29 ?_
        refine am_i2l X dX10_asSort_30 ?_
        refine am_goto (tgt := 54) X dX10_asSort_31 (by decide) ?_
        exact hret _ _ _ _ _ dX10_asSort_54 rfl rfl (by refine ⟨rfl, rfl, ?_⟩; unfold sf_as; (repeat' split) <;> first | rfl | omega)
    · skip
      refine am_lload_n (x := v) X (by rfl) dX10_asSort_16 ?_
      refine am_l2i X dX10_asSort_17 ?_
      refine am_i2s_ X dX10_asSort_18 ?_
      refine am_i2l X dX10_asSort_19 ?_
      refine am_goto (tgt := 54) X dX10_asSort_20 (by decide) ?_
      exact hret _ _ _ _ _ dX10_asSort_54 rfl rfl (by refine ⟨rfl, rfl, ?_⟩; unfold sf_as; (repeat' split) <;> first | rfl | omega)
  · skip
    refine am_lload_n (x := v) X (by rfl) dX10_asSort_4 ?_
    refine am_l2i X dX10_asSort_5 ?_
    refine am_i2b_ X dX10_asSort_6 ?_
    refine am_i2l X dX10_asSort_7 ?_
    refine am_goto (tgt := 54) X dX10_asSort_8 (by decide) ?_
    exact hret _ _ _ _ _ dX10_asSort_54 rfl rfl (by refine ⟨rfl, rfl, ?_⟩; unfold sf_as; (repeat' split) <;> first | rfl | omega)

set_option maxHeartbeats 4000000 in
set_option maxRecDepth 100000 in
theorem m_X10_put (a i v : Int) (σ : am_H) (hs : MshV σ) : am_Mi yX10_put cX10_put 6 (some .int) 3 0 0 [vr 63, vi a, vi i, vl v] SH σ (fun r sh' σ' => SH = sh' ∧ ((md_refusal σ a i ≠ 0 ∧ r = md_refusal σ a i ∧ σ = σ') ∨ (md_refusal σ a i = 0 ∧ r = 1 ∧ (am_up σ 88 (60 * a + i).toNat (sf_as (σ 86 a.toNat - 50) v)) = σ'))) := by
  refine am_Mi_of (by decide +kernel) (Nat.le_of_ble_eq_true rfl) (fun K X hY hI hret => ?_)
  show am_G K 0 [some (vr 63), some (vi a), some (vi i), some (vl v), none, none] [] SH σ
  refine am_aload_n (x := 63) X (by rfl) dX10_put_0 ?_
  refine am_iload_n (x := a) X (by rfl) dX10_put_1 ?_
  refine am_iload_n (x := i) X (by rfl) dX10_put_2 ?_
  refine am_callVi (ci := 9) X hY lk_X10_344 mf_X10_refusal (m_X10_refusal a i σ hs) (by decide) (by decide) (Nat.le_refl _) (Nat.le_refl _) sh_63 rfl rfl rfl (Nat.le_of_ble_eq_true rfl) dX10_put_3 (fun r3 sh3 σ3 hr3 hp3 => ?_)
  obtain ⟨rfl, rfl, hq3⟩ := hp3
  refine am_istore (i := 5) (L' := [some (vr 63), some (vi a), some (vi i), some (vl v), none, some (vi r3)]) X (Nat.le_of_ble_eq_true rfl) (by rfl) dX10_put_6 ?_
  refine am_iload (x := r3) X (by rfl) dX10_put_8 ?_
  refine am_if_ne (tgt := 37) X dX10_put_10 (by decide) (fun h10 => ?_) (fun h10 => ?_)
  · skip
    refine am_iload (x := r3) X (by rfl) dX10_put_37 ?_
    refine am_if_ne (tgt := 46) X dX10_put_39 (by decide) (fun h39 => ?_) (fun h39 => ?_)
    · skip
      refine am_iload (x := r3) X (by rfl) dX10_put_46 ?_
      exact hret _ _ _ _ _ dX10_put_48 rfl rfl (by first | exact ⟨rfl, Or.inl ⟨by omega, by omega, rfl⟩⟩ | exact ⟨rfl, Or.inr (⟨by omega, by omega, rfl⟩)⟩ | (exfalso; omega) | (subst hq33; exact ⟨rfl, Or.inr ⟨by omega, rfl, rfl⟩⟩))
    · skip
      refine am_ic X (by decide) dX10_put_42 ?_
      refine am_goto (tgt := 48) X dX10_put_43 (by decide) ?_
      exact hret _ _ _ _ _ dX10_put_48 rfl rfl (by first | exact ⟨rfl, Or.inl ⟨by omega, by omega, rfl⟩⟩ | exact ⟨rfl, Or.inr (⟨by omega, by omega, rfl⟩)⟩ | (exfalso; omega) | (subst hq33; exact ⟨rfl, Or.inr ⟨by omega, rfl, rfl⟩⟩))
  · skip
    have hi : (0 ≤ a ∧ a ≤ 5) ∧ 0 ≤ i ∧ i < 60 := by unfold md_refusal at hq3; have hsl := fun h => (hs a.toNat h).2; by_cases h9 : 0 ≤ a ∧ a ≤ 5; have := hsl (by omega); (repeat' split at hq3) <;> omega; rw [if_pos h9] at hq3; omega
    have h86 := (hs a.toNat (by omega)).1
    refine am_aload_n (x := 63) X (by rfl) dX10_put_13 ?_
    refine am_getr (c1 := 88) X 63 fl_X10_83 (by decide) sh_63 (by decide) (by rfl) dX10_put_14 ?_
    refine am_bipush X (by decide) dX10_put_17 ?_
    refine am_iload_n (x := a) X (by rfl) dX10_put_19 ?_
    refine am_mul (v := (60 * a)) X (by first | rfl | omega) (by omega) dX10_put_20 ?_
    refine am_iload_n (x := i) X (by rfl) dX10_put_21 ?_
    refine am_add (v := ((60 * a) + i)) X (by first | rfl | omega) (by omega) dX10_put_22 ?_
    refine am_aload_n (x := 63) X (by rfl) dX10_put_23 ?_
    refine am_getr (c1 := 86) X 63 fl_X10_77 (by decide) sh_63 (by decide) (by rfl) dX10_put_24 ?_
    refine am_iload_n (x := a) X (by rfl) dX10_put_27 ?_
    refine am_ald (v := σ 86 ((a).toNat)) X 86 ((a).toNat) sh_86 (by omega) (by omega) (rfl) dX10_put_28 ?_
    refine am_bipush X (by decide) dX10_put_29 ?_
    refine am_sub (v := (σ 86 ((a).toNat) - 50)) X (by first | rfl | omega) (by omega) dX10_put_31 ?_
    refine am_lload_n (x := v) X (by rfl) dX10_put_32 ?_
    refine am_callSl X hY lk_X10_347 mf_X10_asSort (m_X10_asSort (σ 86 ((a).toNat) - 50) v _ σ) (by decide) (by decide) (Nat.le_refl _) (Nat.le_refl _) rfl rfl (Nat.le_of_ble_eq_true rfl) dX10_put_33 (fun r33 sh33 σ33 hr33 hp33 => ?_)
    obtain ⟨rfl, rfl, hq33⟩ := hp33
    refine am_lasj X 88 ((60 * a + i).toNat) sh_88 (by omega) (by omega) dX10_put_36 ?_
    refine am_iload (x := r3) X (by rfl) dX10_put_37 ?_
    refine am_if_ne (tgt := 46) X dX10_put_39 (by decide) (fun h39 => ?_) (fun h39 => ?_)
    · skip
      refine am_iload (x := r3) X (by rfl) dX10_put_46 ?_
      exact hret _ _ _ _ _ dX10_put_48 rfl rfl (by first | exact ⟨rfl, Or.inl ⟨by omega, by omega, rfl⟩⟩ | exact ⟨rfl, Or.inr (⟨by omega, by omega, rfl⟩)⟩ | (exfalso; omega) | (subst hq33; exact ⟨rfl, Or.inr ⟨by omega, rfl, rfl⟩⟩))
    · skip
      refine am_ic X (by decide) dX10_put_42 ?_
      refine am_goto (tgt := 48) X dX10_put_43 (by decide) ?_
      exact hret _ _ _ _ _ dX10_put_48 rfl rfl (by first | exact ⟨rfl, Or.inl ⟨by omega, by omega, rfl⟩⟩ | exact ⟨rfl, Or.inr (⟨by omega, by omega, rfl⟩)⟩ | (exfalso; omega) | (subst hq33; exact ⟨rfl, Or.inr ⟨by omega, rfl, rfl⟩⟩))

set_option maxHeartbeats 4000000 in
set_option maxRecDepth 100000 in
theorem m_X10_element (a i : Int) (σ : am_H) (hs : MshV σ) : am_Ml yX10_element cX10_element 3 (some .long) 3 0 0 [vr 63, vi a, vi i] SH σ (fun r sh' σ' => SH = sh' ∧ σ = σ' ∧ r = (if md_refusal σ a i ≠ 0 then -9223372036854775808 else σ 88 (60 * a + i).toNat)) := by
  refine am_Ml_of (by decide +kernel) (Nat.le_of_ble_eq_true rfl) (fun K X hY hI hret => ?_)
  show am_G K 0 [some (vr 63), some (vi a), some (vi i)] [] SH σ
  refine am_aload_n (x := 63) X (by rfl) dX10_element_0 ?_
  refine am_iload_n (x := a) X (by rfl) dX10_element_1 ?_
  refine am_iload_n (x := i) X (by rfl) dX10_element_2 ?_
  refine am_callVi (ci := 9) X hY lk_X10_344 mf_X10_refusal (m_X10_refusal a i σ hs) (by decide) (by decide) (Nat.le_refl _) (Nat.le_refl _) sh_63 rfl rfl rfl (Nat.le_of_ble_eq_true rfl) dX10_element_3 (fun r3 sh3 σ3 hr3 hp3 => ?_)
  obtain ⟨rfl, rfl, hq3⟩ := hp3
  refine am_if_eq (tgt := 15) X dX10_element_6 (by decide) (fun h6 => ?_) (fun h6 => ?_)
  · skip
    have hi : (0 ≤ a ∧ a ≤ 5) ∧ 0 ≤ i ∧ i < 60 := by unfold md_refusal at hq3; have hsl := fun h => (hs a.toNat h).2; by_cases h9 : 0 ≤ a ∧ a ≤ 5; have := hsl (by omega); (repeat' split at hq3) <;> omega; rw [if_pos h9] at hq3; omega
    refine am_aload_n (x := 63) X (by rfl) dX10_element_15 ?_
    refine am_getr (c1 := 88) X 63 fl_X10_83 (by decide) sh_63 (by decide) (by rfl) dX10_element_16 ?_
    refine am_bipush X (by decide) dX10_element_19 ?_
    refine am_iload_n (x := a) X (by rfl) dX10_element_21 ?_
    refine am_mul (v := (60 * a)) X (by first | rfl | omega) (by omega) dX10_element_22 ?_
    refine am_iload_n (x := i) X (by rfl) dX10_element_23 ?_
    refine am_add (v := ((60 * a) + i)) X (by first | rfl | omega) (by omega) dX10_element_24 ?_
    refine am_lalj (v := σ 88 ((60 * a + i).toNat)) X 88 ((60 * a + i).toNat) sh_88 (by omega) (by omega) (rfl) dX10_element_25 ?_
    exact hret _ _ _ _ _ dX10_element_26 rfl rfl (by refine ⟨rfl, rfl, ?_⟩; rw [← hq3]; (repeat' split) <;> first | omega | assumption)
  · skip
    refine am_ldc2 X (n := -9223372036854775808) (by unfold R64; decide) cn_X10_353 dX10_element_9 ?_
    refine am_goto (tgt := 26) X dX10_element_12 (by decide) ?_
    exact hret _ _ _ _ _ dX10_element_26 rfl rfl (by refine ⟨rfl, rfl, ?_⟩; rw [← hq3]; (repeat' split) <;> first | omega | assumption)

set_option maxHeartbeats 4000000 in
set_option maxRecDepth 100000 in
theorem m_X10_count (a : Int) (σ : am_H) (hc : 0 ≤ σ 63 7 ∧ σ 63 7 ≤ 20) : am_Mi yX10_count cX10_count 2 (some .int) 2 0 0 [vr 63, vi a] SH σ (fun r sh' σ' => SH = sh' ∧ σ = σ' ∧ r = (if a = 0 then σ 63 6 else if a = 1 then σ 63 7 else if a = 2 then am_sum (fun n : Nat => if 0 < σ 68 (5 * n + 2) then 1 else 0) (σ 63 7).toNat else if a = 3 then σ 63 20 else if a = 4 then σ 63 9 else if a = 5 then σ 63 11 else if a = 6 then σ 63 5 else if a = 7 then σ 63 39 else if a = 8 then σ 63 42 else -1)) := by
  refine am_Mi_of (by decide +kernel) (Nat.le_of_ble_eq_true rfl) (fun K X hY hI hret => ?_)
  show am_G K 0 [some (vr 63), some (vi a)] [] SH σ
  refine am_iload_n (x := a) X (by rfl) dX10_count_0 ?_
  by_cases h1o : a < 0 ∨ 8 < a
  · skip
    refine am_tableOut (tgt := 97) X dX10_count_1 h1o (by decide) ?_
    refine am_ic X (by decide) dX10_count_97 ?_
    exact hret _ _ _ _ _ dX10_count_98 rfl rfl (by refine ⟨rfl, rfl, ?_⟩; (repeat' split) <;> first | omega | assumption)
  rcases (show a = 0 ∨ a = 1 ∨ a = 2 ∨ a = 3 ∨ a = 4 ∨ a = 5 ∨ a = 6 ∨ a = 7 ∨ a = 8 by omega) with h1 | h1 | h1 | h1 | h1 | h1 | h1 | h1 | h1
  · skip
    refine am_tableIn (off := 51) (tgt := 52) X dX10_count_1 (by omega) (by omega) (by rw [h1]; rfl) (by decide) ?_
    refine am_aload_n (x := 63) X (by rfl) dX10_count_52 ?_
    refine am_get (v := σ 63 6) X 63 fl_X10_100 (by decide) sh_63 (by decide) (rfl) dX10_count_53 ?_
    exact hret _ _ _ _ _ dX10_count_56 rfl rfl (by refine ⟨rfl, rfl, ?_⟩; (repeat' split) <;> first | omega | assumption)
  · skip
    refine am_tableIn (off := 56) (tgt := 57) X dX10_count_1 (by omega) (by omega) (by rw [h1]; rfl) (by decide) ?_
    refine am_aload_n (x := 63) X (by rfl) dX10_count_57 ?_
    refine am_get (v := σ 63 7) X 63 fl_X10_111 (by decide) sh_63 (by decide) (rfl) dX10_count_58 ?_
    exact hret _ _ _ _ _ dX10_count_61 rfl rfl (by refine ⟨rfl, rfl, ?_⟩; (repeat' split) <;> first | omega | assumption)
  · skip
    refine am_tableIn (off := 61) (tgt := 62) X dX10_count_1 (by omega) (by omega) (by rw [h1]; rfl) (by decide) ?_
    refine am_aload_n (x := 63) X (by rfl) dX10_count_62 ?_
    refine am_callVi (ci := 9) X hY lk_X10_361 mf_X10_openMany (m_X10_openMany σ hc) (by decide) (by decide) (Nat.le_refl _) (Nat.le_refl _) sh_63 rfl rfl rfl (Nat.le_of_ble_eq_true rfl) dX10_count_63 (fun r63 sh63 σ63 hr63 hp63 => ?_)
    obtain ⟨rfl, rfl, hq63⟩ := hp63
    exact hret _ _ _ _ _ dX10_count_66 rfl rfl (by refine ⟨rfl, rfl, ?_⟩; (repeat' split) <;> first | omega | assumption)
  · skip
    refine am_tableIn (off := 66) (tgt := 67) X dX10_count_1 (by omega) (by omega) (by rw [h1]; rfl) (by decide) ?_
    refine am_aload_n (x := 63) X (by rfl) dX10_count_67 ?_
    refine am_get (v := σ 63 20) X 63 fl_X10_161 (by decide) sh_63 (by decide) (rfl) dX10_count_68 ?_
    exact hret _ _ _ _ _ dX10_count_71 rfl rfl (by refine ⟨rfl, rfl, ?_⟩; (repeat' split) <;> first | omega | assumption)
  · skip
    refine am_tableIn (off := 71) (tgt := 72) X dX10_count_1 (by omega) (by omega) (by rw [h1]; rfl) (by decide) ?_
    refine am_aload_n (x := 63) X (by rfl) dX10_count_72 ?_
    refine am_get (v := σ 63 9) X 63 fl_X10_231 (by decide) sh_63 (by decide) (rfl) dX10_count_73 ?_
    exact hret _ _ _ _ _ dX10_count_76 rfl rfl (by refine ⟨rfl, rfl, ?_⟩; (repeat' split) <;> first | omega | assumption)
  · skip
    refine am_tableIn (off := 76) (tgt := 77) X dX10_count_1 (by omega) (by omega) (by rw [h1]; rfl) (by decide) ?_
    refine am_aload_n (x := 63) X (by rfl) dX10_count_77 ?_
    refine am_get (v := σ 63 11) X 63 fl_X10_172 (by decide) sh_63 (by decide) (rfl) dX10_count_78 ?_
    exact hret _ _ _ _ _ dX10_count_81 rfl rfl (by refine ⟨rfl, rfl, ?_⟩; (repeat' split) <;> first | omega | assumption)
  · skip
    refine am_tableIn (off := 81) (tgt := 82) X dX10_count_1 (by omega) (by omega) (by rw [h1]; rfl) (by decide) ?_
    refine am_aload_n (x := 63) X (by rfl) dX10_count_82 ?_
    refine am_get (v := σ 63 5) X 63 fl_X10_94 (by decide) sh_63 (by decide) (rfl) dX10_count_83 ?_
    exact hret _ _ _ _ _ dX10_count_86 rfl rfl (by refine ⟨rfl, rfl, ?_⟩; (repeat' split) <;> first | omega | assumption)
  · skip
    refine am_tableIn (off := 86) (tgt := 87) X dX10_count_1 (by omega) (by omega) (by rw [h1]; rfl) (by decide) ?_
    refine am_aload_n (x := 63) X (by rfl) dX10_count_87 ?_
    refine am_get (v := σ 63 39) X 63 fl_X10_309 (by decide) sh_63 (by decide) (rfl) dX10_count_88 ?_
    exact hret _ _ _ _ _ dX10_count_91 rfl rfl (by refine ⟨rfl, rfl, ?_⟩; (repeat' split) <;> first | omega | assumption)
  · skip
    refine am_tableIn (off := 91) (tgt := 92) X dX10_count_1 (by omega) (by omega) (by rw [h1]; rfl) (by decide) ?_
    refine am_aload_n (x := 63) X (by rfl) dX10_count_92 ?_
    refine am_get (v := σ 63 42) X 63 fl_X10_314 (by decide) sh_63 (by decide) (rfl) dX10_count_93 ?_
    exact hret _ _ _ _ _ dX10_count_96 rfl rfl (by refine ⟨rfl, rfl, ?_⟩; (repeat' split) <;> first | omega | assumption)

set_option maxHeartbeats 4000000 in
set_option maxRecDepth 100000 in
theorem m_X10_runaway (a : Int) (σ : am_H) (hp : 0 ≤ σ 63 6 ∧ σ 63 6 ≤ 8) (hc : 0 ≤ σ 63 7 ∧ σ 63 7 ≤ 20) (hd : ∀ n : Nat, (n : Int) < σ 63 7 → 0 ≤ σ 68 (5 * n + 2) ∧ σ 68 (5 * n + 2) ≤ 9) : am_Mi yX10_runaway cX10_runaway 4 (some .int) 2 0 0 [vr 63, vi a] SH σ (fun r sh' σ' => SH = sh' ∧ ((¬ (0 ≤ a ∧ a < σ 63 6) ∧ r = -1 ∧ σ = σ') ∨ ((0 ≤ a ∧ a < σ 63 6) ∧ r = md_by σ a ∧ md_drop a (σ 63 7).toNat σ = σ'))) := by
  refine am_Mi_of (by decide +kernel) (Nat.le_of_ble_eq_true rfl) (fun K X hY hI hret => ?_)
  show am_G K 0 [some (vr 63), some (vi a), none, none] [] SH σ
  refine am_aload_n (x := 63) X (by rfl) dX10_runaway_0 ?_
  refine am_iload_n (x := a) X (by rfl) dX10_runaway_1 ?_
  refine am_callVi (ci := 9) X hY lk_X10_107 mf_X10_isPerson (m_X10_isPerson a σ hp) (by decide) (by decide) (Nat.le_refl _) (Nat.le_refl _) sh_63 rfl rfl rfl (Nat.le_of_ble_eq_true rfl) dX10_runaway_2 (fun r2 sh2 σ2 hr2 hp2 => ?_)
  obtain ⟨rfl, rfl, hq2⟩ := hp2
  refine am_if_ne (tgt := 10) X dX10_runaway_5 (by decide) (fun h5 => ?_) (fun h5 => ?_)
  · skip
    refine am_aload_n (x := 63) X (by rfl) dX10_runaway_10 ?_
    refine am_iload_n (x := a) X (by rfl) dX10_runaway_11 ?_
    refine am_ic X (by decide) dX10_runaway_12 ?_
    refine am_callVi (ci := 9) X hY lk_X10_141 mf_X10_sumOf (m_X10_sumOf_0 a σ hc hd) (by decide) (by decide) (Nat.le_refl _) (Nat.le_refl _) sh_63 rfl rfl rfl (Nat.le_of_ble_eq_true rfl) dX10_runaway_13 (fun r13 sh13 σ13 hr13 hp13 => ?_)
    obtain ⟨rfl, rfl, hq13⟩ := hp13
    refine am_istore_n (i := 2) (L' := [some (vr 63), some (vi a), some (vi r13), none]) X rfl (Nat.le_of_ble_eq_true rfl) (by rfl) dX10_runaway_16 ?_
    refine am_ic X (by decide) dX10_runaway_17 ?_
    refine am_istore_n (i := 3) (L' := [some (vr 63), some (vi a), some (vi r13), some (vi 0)]) X rfl (Nat.le_of_ble_eq_true rfl) (by rfl) dX10_runaway_18 ?_
    have hL19 : ∀ (m19 : Nat) (j : Nat) (hj : (j : Int) ≤ σ 63 7) (hm19 : (σ 63 7).toNat - j = m19), am_G K 19 [some (vr 63), some (vi a), some (vi r13), some (vi (j : Int))] [] SH (md_drop a j σ) := by
      intro m19
      induction m19 using Nat.strongRecOn with
      | ind m19 ih19 =>
      intro j hj hm19
      have e1 : md_drop a j σ 63 7 = σ 63 7 := md_drop_at (by omega)
      have e2 : md_drop a j σ 68 (5 * j + 2) = σ 68 (5 * j + 2) := md_drop_at (by omega)
      have e3 : md_drop a j σ 68 (5 * j) = σ 68 (5 * j) := md_drop_at (by omega)
      have hdj := fun h : (j : Int) < σ 63 7 => hd j h
      refine am_iload_n (x := (j : Int)) X (by rfl) dX10_runaway_19 ?_
      refine am_aload_n (x := 63) X (by rfl) dX10_runaway_20 ?_
      refine am_get (v := (md_drop a j σ) 63 7) X 63 fl_X10_111 (by decide) sh_63 (by decide) (rfl) dX10_runaway_21 ?_
      refine am_icmp_ge (tgt := 60) X dX10_runaway_24 (by decide) (fun h24 => ?_) (fun h24 => ?_)
      · skip
        refine am_iload_n (x := r13) X (by rfl) dX10_runaway_60 ?_
        exact hret _ _ _ _ _ dX10_runaway_61 rfl rfl (by have e9 := hq13.1; rw [show (σ 63 7).toNat = j by omega] at e9; rw [show (σ 63 7).toNat = j by omega]; exact ⟨rfl, Or.inr ⟨by omega, by unfold md_by; rw [show (σ 63 7).toNat = j by omega]; exact e9, rfl⟩⟩)
      · skip
        refine am_aload_n (x := 63) X (by rfl) dX10_runaway_27 ?_
        refine am_getr (c1 := 68) X 63 fl_X10_22 (by decide) sh_63 (by decide) (by rfl) dX10_runaway_28 ?_
        refine am_ic X (by decide) dX10_runaway_31 ?_
        refine am_iload_n (x := (j : Int)) X (by rfl) dX10_runaway_32 ?_
        refine am_mul (v := (5 * (j : Int))) X (by first | rfl | omega) (by omega) dX10_runaway_33 ?_
        refine am_ald (v := (md_drop a j σ) 68 (5 * j)) X 68 (5 * j) sh_68 (by omega) (by omega) (rfl) dX10_runaway_34 ?_
        refine am_iload_n (x := a) X (by rfl) dX10_runaway_35 ?_
        refine am_icmp_ne (tgt := 54) X dX10_runaway_36 (by decide) (fun h36 => ?_) (fun h36 => ?_)
        · skip
          refine am_inc (x := (j : Int)) (v := ((j : Int) + 1)) (L' := [some (vr 63), some (vi a), some (vi r13), some (vi ((j : Int) + 1))]) X (by rfl) (by omega) (by omega) (by rfl) dX10_runaway_54 ?_
          refine am_goto (tgt := 19) X dX10_runaway_57 (by decide) ?_
          refine am_sg (md_drop a (j + 1) σ) (by symm; show am_it _ (j + 1) σ = _; rw [am_it_succ]; first | exact if_pos (by unfold md_drop at *; omega) | exact if_neg (by unfold md_drop at *; omega)) ?_
          exact ih19 _ (by omega) (j + 1) (by omega) rfl
        · skip
          refine am_aload_n (x := 63) X (by rfl) dX10_runaway_39 ?_
          refine am_iload_n (x := (j : Int)) X (by rfl) dX10_runaway_40 ?_
          refine am_aload_n (x := 63) X (by rfl) dX10_runaway_41 ?_
          refine am_getr (c1 := 68) X 63 fl_X10_22 (by decide) sh_63 (by decide) (by rfl) dX10_runaway_42 ?_
          refine am_ic X (by decide) dX10_runaway_45 ?_
          refine am_iload_n (x := (j : Int)) X (by rfl) dX10_runaway_46 ?_
          refine am_mul (v := (5 * (j : Int))) X (by first | rfl | omega) (by omega) dX10_runaway_47 ?_
          refine am_ic X (by decide) dX10_runaway_48 ?_
          refine am_add (v := ((5 * (j : Int)) + 2)) X (by first | rfl | omega) (by omega) dX10_runaway_49 ?_
          refine am_ald (v := (md_drop a j σ) 68 ((5 * j) + 2)) X 68 ((5 * j) + 2) sh_68 (by omega) (by omega) (rfl) dX10_runaway_50 ?_
          refine am_callVv (ci := 9) X hY lk_X10_249 mf_X10_loses (m_X10_loses (j : Int) j (by omega) (by omega) ((md_drop a j σ) 68 ((5 * j) + 2)) (md_drop a j σ) (by omega)) (by decide) (by decide) (Nat.le_refl _) (Nat.le_refl _) sh_63 rfl rfl rfl (Nat.le_of_ble_eq_true rfl) dX10_runaway_51 (fun sh51 σ51 hp51 => ?_)
          obtain ⟨rfl, rfl, hq51⟩ := hp51
          refine am_inc (x := (j : Int)) (v := ((j : Int) + 1)) (L' := [some (vr 63), some (vi a), some (vi r13), some (vi ((j : Int) + 1))]) X (by rfl) (by omega) (by omega) (by rfl) dX10_runaway_54 ?_
          refine am_goto (tgt := 19) X dX10_runaway_57 (by decide) ?_
          refine am_sg (md_drop a (j + 1) σ) (by symm; show am_it _ (j + 1) σ = _; rw [am_it_succ]; first | exact if_pos (by unfold md_drop at *; omega) | exact if_neg (by unfold md_drop at *; omega)) ?_
          exact ih19 _ (by omega) (j + 1) (by omega) rfl
    refine am_sg (md_drop a 0 σ) (rfl) ?_
    exact hL19 _ 0 (by omega) rfl
  · skip
    refine am_ic X (by decide) dX10_runaway_8 ?_
    exact hret _ _ _ _ _ dX10_runaway_9 rfl rfl (by exact ⟨rfl, Or.inl ⟨by omega, rfl, rfl⟩⟩)

set_option maxHeartbeats 4000000 in
set_option maxRecDepth 100000 in
theorem m_X10_heir (a : Int) (σ : am_H) (hp : 0 ≤ σ 63 6 ∧ σ 63 6 ≤ 8) (hc : 0 ≤ σ 63 7 ∧ σ 63 7 ≤ 20) (hd : ∀ n : Nat, (n : Int) < σ 63 7 → 0 ≤ σ 68 (5 * n + 2) ∧ σ 68 (5 * n + 2) ≤ 9) : am_Mi yX10_heir cX10_heir 8 (some .int) 3 0 0 [vr 63, vi a] SH σ (fun r sh' σ' => SH = sh' ∧ ((¬ md_pair σ a ∧ r = -1 ∧ σ = σ') ∨ (md_pair σ a ∧ r = am_sum (md_moved σ (a / 10) (a % 10)) (σ 63 7).toNat ∧ md_inh (a / 10) (a % 10) (σ 63 7).toNat σ = σ'))) := by
  refine am_Mi_of (by decide +kernel) (Nat.le_of_ble_eq_true rfl) (fun K X hY hI hret => ?_)
  show am_G K 0 [some (vr 63), some (vi a), none, none, none, none, none, none] [] SH σ
  refine am_aload_n (x := 63) X (by rfl) dX10_heir_0 ?_
  refine am_iload_n (x := a) X (by rfl) dX10_heir_1 ?_
  refine am_callVi (ci := 9) X hY lk_X10_164 mf_X10_isPq (m_X10_isPq a σ hp) (by decide) (by decide) (Nat.le_refl _) (Nat.le_refl _) sh_63 rfl rfl rfl (Nat.le_of_ble_eq_true rfl) dX10_heir_2 (fun r2 sh2 σ2 hr2 hp2 => ?_)
  obtain ⟨rfl, rfl, hq2⟩ := hp2
  refine am_if_ne (tgt := 10) X dX10_heir_5 (by decide) (fun h5 => ?_) (fun h5 => ?_)
  · skip
    refine am_iload_n (x := a) X (by rfl) dX10_heir_10 ?_
    refine am_bipush X (by decide) dX10_heir_11 ?_
    refine am_div (v := (a / 10)) X (by omega) (by omega) rfl dX10_heir_13 ?_
    refine am_istore_n (i := 2) (L' := [some (vr 63), some (vi a), some (vi (a / 10)), none, none, none, none, none]) X rfl (Nat.le_of_ble_eq_true rfl) (by rfl) dX10_heir_14 ?_
    refine am_iload_n (x := a) X (by rfl) dX10_heir_15 ?_
    refine am_bipush X (by decide) dX10_heir_16 ?_
    refine am_rem (v := (a % 10)) X (by omega) (by omega) rfl dX10_heir_18 ?_
    refine am_istore_n (i := 3) (L' := [some (vr 63), some (vi a), some (vi (a / 10)), some (vi (a % 10)), none, none, none, none]) X rfl (Nat.le_of_ble_eq_true rfl) (by rfl) dX10_heir_19 ?_
    refine am_ic X (by decide) dX10_heir_20 ?_
    refine am_istore (i := 4) (L' := [some (vr 63), some (vi a), some (vi (a / 10)), some (vi (a % 10)), some (vi 0), none, none, none]) X (Nat.le_of_ble_eq_true rfl) (by rfl) dX10_heir_21 ?_
    refine am_ic X (by decide) dX10_heir_23 ?_
    refine am_istore (i := 5) (L' := [some (vr 63), some (vi a), some (vi (a / 10)), some (vi (a % 10)), some (vi 0), some (vi 0), none, none]) X (Nat.le_of_ble_eq_true rfl) (by rfl) dX10_heir_24 ?_
    have hL26 : ∀ (m26 : Nat) (k : Nat) (s : Int) (hk : (k : Int) ≤ σ 63 7) (hs : s = am_sum (md_moved σ (a / 10) (a % 10)) k) (hm26 : (σ 63 7).toNat - k = m26), am_G K 26 [some (vr 63), some (vi a), some (vi (a / 10)), some (vi (a % 10)), some (vi s), some (vi (k : Int)), none, none] [] SH (md_inh (a / 10) (a % 10) k σ) := by
      intro m26
      induction m26 using Nat.strongRecOn with
      | ind m26 ih26 =>
      intro k s hk hs hm26
      have e1 : md_inh (a / 10) (a % 10) k σ 63 7 = σ 63 7 := md_inh_at (by omega)
      have e2 : md_inh (a / 10) (a % 10) k σ 68 (5 * k + 2) = σ 68 (5 * k + 2) := md_inh_at (by omega)
      have e3 : md_inh (a / 10) (a % 10) k σ 68 (5 * k) = σ 68 (5 * k) := md_inh_at (by omega)
      have e4 : md_inh (a / 10) (a % 10) k σ 68 (5 * k + 1) = σ 68 (5 * k + 1) := md_inh_at (by omega)
      have hdj := fun h : (k : Int) < σ 63 7 => hd k h
      have hb := am_sum_1 (f := md_moved σ (a / 10) (a % 10)) (n := k) (fun j hj => by unfold md_moved; split <;> omega)
      refine am_iload (x := (k : Int)) X (by rfl) dX10_heir_26 ?_
      refine am_aload_n (x := 63) X (by rfl) dX10_heir_28 ?_
      refine am_get (v := (md_inh (a / 10) (a % 10) k σ) 63 7) X 63 fl_X10_111 (by decide) sh_63 (by decide) (rfl) dX10_heir_29 ?_
      refine am_icmp_ge (tgt := 168) X dX10_heir_32 (by decide) (fun h32 => ?_) (fun h32 => ?_)
      · skip
        refine am_iload (x := s) X (by rfl) dX10_heir_168 ?_
        exact hret _ _ _ _ _ dX10_heir_170 rfl rfl (by rw [show (σ 63 7).toNat = k by omega] at *; exact ⟨rfl, Or.inr ⟨by omega, hs, rfl⟩⟩)
      · skip
        refine am_aload_n (x := 63) X (by rfl) dX10_heir_35 ?_
        refine am_getr (c1 := 68) X 63 fl_X10_22 (by decide) sh_63 (by decide) (by rfl) dX10_heir_36 ?_
        refine am_ic X (by decide) dX10_heir_39 ?_
        refine am_iload (x := (k : Int)) X (by rfl) dX10_heir_40 ?_
        refine am_mul (v := (5 * (k : Int))) X (by first | rfl | omega) (by omega) dX10_heir_42 ?_
        refine am_ald (v := (md_inh (a / 10) (a % 10) k σ) 68 (5 * k)) X 68 (5 * k) sh_68 (by omega) (by omega) (rfl) dX10_heir_43 ?_
        refine am_istore (i := 6) (L' := [some (vr 63), some (vi a), some (vi (a / 10)), some (vi (a % 10)), some (vi s), some (vi (k : Int)), some (vi ((md_inh (a / 10) (a % 10) k σ) 68 (5 * k))), none]) X (Nat.le_of_ble_eq_true rfl) (by rfl) dX10_heir_44 ?_
        refine am_aload_n (x := 63) X (by rfl) dX10_heir_46 ?_
        refine am_getr (c1 := 68) X 63 fl_X10_22 (by decide) sh_63 (by decide) (by rfl) dX10_heir_47 ?_
        refine am_ic X (by decide) dX10_heir_50 ?_
        refine am_iload (x := (k : Int)) X (by rfl) dX10_heir_51 ?_
        refine am_mul (v := (5 * (k : Int))) X (by first | rfl | omega) (by omega) dX10_heir_53 ?_
        refine am_ic X (by decide) dX10_heir_54 ?_
        refine am_add (v := ((5 * (k : Int)) + 1)) X (by first | rfl | omega) (by omega) dX10_heir_55 ?_
        refine am_ald (v := (md_inh (a / 10) (a % 10) k σ) 68 ((5 * k) + 1)) X 68 ((5 * k) + 1) sh_68 (by omega) (by omega) (rfl) dX10_heir_56 ?_
        refine am_istore (i := 7) (L' := [some (vr 63), some (vi a), some (vi (a / 10)), some (vi (a % 10)), some (vi s), some (vi (k : Int)), some (vi ((md_inh (a / 10) (a % 10) k σ) 68 (5 * k))), some (vi ((md_inh (a / 10) (a % 10) k σ) 68 ((5 * k) + 1)))]) X (Nat.le_of_ble_eq_true rfl) (by rfl) dX10_heir_57 ?_
        refine am_aload_n (x := 63) X (by rfl) dX10_heir_59 ?_
        refine am_iload (x := (k : Int)) X (by rfl) dX10_heir_60 ?_
        refine am_callVi (ci := 9) X hY lk_X10_240 mf_X10_isOpen (m_X10_isOpen (k : Int) k (by omega) (by omega) (md_inh (a / 10) (a % 10) k σ)) (by decide) (by decide) (Nat.le_refl _) (Nat.le_refl _) sh_63 rfl rfl rfl (Nat.le_of_ble_eq_true rfl) dX10_heir_62 (fun r62 sh62 σ62 hr62 hp62 => ?_)
        obtain ⟨rfl, rfl, hq62⟩ := hp62
        refine am_if_eq (tgt := 162) X dX10_heir_65 (by decide) (fun h65 => ?_) (fun h65 => ?_)
        · skip
          refine am_inc (x := (k : Int)) (v := ((k : Int) + 1)) (L' := [some (vr 63), some (vi a), some (vi (a / 10)), some (vi (a % 10)), some (vi s), some (vi ((k : Int) + 1)), some (vi ((md_inh (a / 10) (a % 10) k σ) 68 (5 * k))), some (vi ((md_inh (a / 10) (a % 10) k σ) 68 ((5 * k) + 1)))]) X (by rfl) (by omega) (by omega) (by rfl) dX10_heir_162 ?_
          refine am_goto (tgt := 26) X dX10_heir_165 (by decide) ?_
          refine am_fg [true, true, true, true, true, true, false, false] rfl (L' := [some (vr 63), some (vi a), some (vi (a / 10)), some (vi (a % 10)), some (vi s), some (vi ((k : Int) + 1)), none, none]) rfl ?_
          refine am_sg (md_inh (a / 10) (a % 10) (k + 1) σ) (by symm; show am_it _ (k + 1) σ = _; rw [am_it_succ]; show md_inh1 (a / 10) (a % 10) k (md_inh (a / 10) (a % 10) k σ) = _; unfold md_inh1; (repeat' split) <;> first | rfl | (exfalso; omega)) ?_
          exact ih26 _ (by omega) (k + 1) _ (by omega) (by (try subst s); (try simp only [hs]); show _ = am_sum (md_moved σ (a / 10) (a % 10)) k + md_moved σ (a / 10) (a % 10) k; unfold md_moved; (repeat' split) <;> omega) rfl
        · skip
          refine am_iload (x := (md_inh (a / 10) (a % 10) k σ) 68 (5 * k)) X (by rfl) dX10_heir_68 ?_
          refine am_iload_n (x := (a / 10)) X (by rfl) dX10_heir_70 ?_
          refine am_icmp_eq (tgt := 83) X dX10_heir_71 (by decide) (fun h71 => ?_) (fun h71 => ?_)
          · skip
            refine am_iload (x := (md_inh (a / 10) (a % 10) k σ) 68 (5 * k)) X (by rfl) dX10_heir_83 ?_
            refine am_iload_n (x := (a % 10)) X (by rfl) dX10_heir_85 ?_
            refine am_icmp_eq (tgt := 95) X dX10_heir_86 (by decide) (fun h86 => ?_) (fun h86 => ?_)
            · skip
              refine am_aload_n (x := 63) X (by rfl) dX10_heir_95 ?_
              refine am_iload (x := (k : Int)) X (by rfl) dX10_heir_96 ?_
              refine am_aload_n (x := 63) X (by rfl) dX10_heir_98 ?_
              refine am_getr (c1 := 68) X 63 fl_X10_22 (by decide) sh_63 (by decide) (by rfl) dX10_heir_99 ?_
              refine am_ic X (by decide) dX10_heir_102 ?_
              refine am_iload (x := (k : Int)) X (by rfl) dX10_heir_103 ?_
              refine am_mul (v := (5 * (k : Int))) X (by first | rfl | omega) (by omega) dX10_heir_105 ?_
              refine am_ic X (by decide) dX10_heir_106 ?_
              refine am_add (v := ((5 * (k : Int)) + 2)) X (by first | rfl | omega) (by omega) dX10_heir_107 ?_
              refine am_ald (v := (md_inh (a / 10) (a % 10) k σ) 68 ((5 * k) + 2)) X 68 ((5 * k) + 2) sh_68 (by omega) (by omega) (rfl) dX10_heir_108 ?_
              refine am_callVv (ci := 9) X hY lk_X10_249 mf_X10_loses (m_X10_loses (k : Int) k (by omega) (by omega) ((md_inh (a / 10) (a % 10) k σ) 68 ((5 * k) + 2)) (md_inh (a / 10) (a % 10) k σ) (by omega)) (by decide) (by decide) (Nat.le_refl _) (Nat.le_refl _) sh_63 rfl rfl rfl (Nat.le_of_ble_eq_true rfl) dX10_heir_109 (fun sh109 σ109 hp109 => ?_)
              obtain ⟨rfl, rfl, hq109⟩ := hp109
              refine am_goto (tgt := 162) X dX10_heir_112 (by decide) ?_
              refine am_inc (x := (k : Int)) (v := ((k : Int) + 1)) (L' := [some (vr 63), some (vi a), some (vi (a / 10)), some (vi (a % 10)), some (vi s), some (vi ((k : Int) + 1)), some (vi ((md_inh (a / 10) (a % 10) k σ) 68 (5 * k))), some (vi ((md_inh (a / 10) (a % 10) k σ) 68 ((5 * k) + 1)))]) X (by rfl) (by omega) (by omega) (by rfl) dX10_heir_162 ?_
              refine am_goto (tgt := 26) X dX10_heir_165 (by decide) ?_
              refine am_fg [true, true, true, true, true, true, false, false] rfl (L' := [some (vr 63), some (vi a), some (vi (a / 10)), some (vi (a % 10)), some (vi s), some (vi ((k : Int) + 1)), none, none]) rfl ?_
              refine am_sg (md_inh (a / 10) (a % 10) (k + 1) σ) (by symm; show am_it _ (k + 1) σ = _; rw [am_it_succ]; show md_inh1 (a / 10) (a % 10) k (md_inh (a / 10) (a % 10) k σ) = _; unfold md_inh1; (repeat' split) <;> first | rfl | (exfalso; omega)) ?_
              exact ih26 _ (by omega) (k + 1) _ (by omega) (by (try subst s); (try simp only [hs]); show _ = am_sum (md_moved σ (a / 10) (a % 10)) k + md_moved σ (a / 10) (a % 10) k; unfold md_moved; (repeat' split) <;> omega) rfl
            · skip
              refine am_iload (x := (md_inh (a / 10) (a % 10) k σ) 68 ((5 * k) + 1)) X (by rfl) dX10_heir_89 ?_
              refine am_iload_n (x := (a % 10)) X (by rfl) dX10_heir_91 ?_
              refine am_icmp_ne (tgt := 115) X dX10_heir_92 (by decide) (fun h92 => ?_) (fun h92 => ?_)
              · skip
                refine am_aload_n (x := 63) X (by rfl) dX10_heir_115 ?_
                refine am_getr (c1 := 68) X 63 fl_X10_22 (by decide) sh_63 (by decide) (by rfl) dX10_heir_116 ?_
                refine am_ic X (by decide) dX10_heir_119 ?_
                refine am_iload (x := (k : Int)) X (by rfl) dX10_heir_120 ?_
                refine am_mul (v := (5 * (k : Int))) X (by first | rfl | omega) (by omega) dX10_heir_122 ?_
                refine am_iload (x := (md_inh (a / 10) (a % 10) k σ) 68 (5 * k)) X (by rfl) dX10_heir_123 ?_
                refine am_iload_n (x := (a / 10)) X (by rfl) dX10_heir_125 ?_
                refine am_icmp_ne (tgt := 133) X dX10_heir_126 (by decide) (fun h126 => ?_) (fun h126 => ?_)
                · skip
                  refine am_iload (x := (md_inh (a / 10) (a % 10) k σ) 68 (5 * k)) X (by rfl) dX10_heir_133 ?_
                  refine am_ast X 68 (5 * k) sh_68 (by omega) (by omega) dX10_heir_135 ?_
                  refine am_aload_n (x := 63) X (by rfl) dX10_heir_136 ?_
                  refine am_getr (c1 := 68) X 63 fl_X10_22 (by decide) sh_63 (by decide) (by rfl) dX10_heir_137 ?_
                  refine am_ic X (by decide) dX10_heir_140 ?_
                  refine am_iload (x := (k : Int)) X (by rfl) dX10_heir_141 ?_
                  refine am_mul (v := (5 * (k : Int))) X (by first | rfl | omega) (by omega) dX10_heir_143 ?_
                  refine am_ic X (by decide) dX10_heir_144 ?_
                  refine am_add (v := ((5 * (k : Int)) + 1)) X (by first | rfl | omega) (by omega) dX10_heir_145 ?_
                  refine am_iload (x := (md_inh (a / 10) (a % 10) k σ) 68 ((5 * k) + 1)) X (by rfl) dX10_heir_146 ?_
                  refine am_iload_n (x := (a / 10)) X (by rfl) dX10_heir_148 ?_
                  refine am_icmp_ne (tgt := 156) X dX10_heir_149 (by decide) (fun h149 => ?_) (fun h149 => ?_)
                  · skip
                    refine am_iload (x := (md_inh (a / 10) (a % 10) k σ) 68 ((5 * k) + 1)) X (by rfl) dX10_heir_156 ?_
                    refine am_ast X 68 ((5 * k) + 1) sh_68 (by omega) (by omega) dX10_heir_158 ?_
                    refine am_inc (x := s) (v := (s + 1)) (L' := [some (vr 63), some (vi a), some (vi (a / 10)), some (vi (a % 10)), some (vi (s + 1)), some (vi (k : Int)), some (vi ((md_inh (a / 10) (a % 10) k σ) 68 (5 * k))), some (vi ((md_inh (a / 10) (a % 10) k σ) 68 ((5 * k) + 1)))]) X (by rfl) (by omega) (by omega) (by rfl) dX10_heir_159 ?_
                    refine am_inc (x := (k : Int)) (v := ((k : Int) + 1)) (L' := [some (vr 63), some (vi a), some (vi (a / 10)), some (vi (a % 10)), some (vi (s + 1)), some (vi ((k : Int) + 1)), some (vi ((md_inh (a / 10) (a % 10) k σ) 68 (5 * k))), some (vi ((md_inh (a / 10) (a % 10) k σ) 68 ((5 * k) + 1)))]) X (by rfl) (by omega) (by omega) (by rfl) dX10_heir_162 ?_
                    refine am_goto (tgt := 26) X dX10_heir_165 (by decide) ?_
                    refine am_fg [true, true, true, true, true, true, false, false] rfl (L' := [some (vr 63), some (vi a), some (vi (a / 10)), some (vi (a % 10)), some (vi (s + 1)), some (vi ((k : Int) + 1)), none, none]) rfl ?_
                    refine am_sg (md_inh (a / 10) (a % 10) (k + 1) σ) (by symm; show am_it _ (k + 1) σ = _; rw [am_it_succ]; show md_inh1 (a / 10) (a % 10) k (md_inh (a / 10) (a % 10) k σ) = _; unfold md_inh1; (repeat' split) <;> first | rfl | (exfalso; omega)) ?_
                    exact ih26 _ (by omega) (k + 1) _ (by omega) (by (try subst s); (try simp only [hs]); show _ = am_sum (md_moved σ (a / 10) (a % 10)) k + md_moved σ (a / 10) (a % 10) k; unfold md_moved; (repeat' split) <;> omega) rfl
                  · skip
                    refine am_iload_n (x := (a % 10)) X (by rfl) dX10_heir_152 ?_
                    refine am_goto (tgt := 158) X dX10_heir_153 (by decide) ?_
                    refine am_ast X 68 ((5 * k) + 1) sh_68 (by omega) (by omega) dX10_heir_158 ?_
                    refine am_inc (x := s) (v := (s + 1)) (L' := [some (vr 63), some (vi a), some (vi (a / 10)), some (vi (a % 10)), some (vi (s + 1)), some (vi (k : Int)), some (vi ((md_inh (a / 10) (a % 10) k σ) 68 (5 * k))), some (vi ((md_inh (a / 10) (a % 10) k σ) 68 ((5 * k) + 1)))]) X (by rfl) (by omega) (by omega) (by rfl) dX10_heir_159 ?_
                    refine am_inc (x := (k : Int)) (v := ((k : Int) + 1)) (L' := [some (vr 63), some (vi a), some (vi (a / 10)), some (vi (a % 10)), some (vi (s + 1)), some (vi ((k : Int) + 1)), some (vi ((md_inh (a / 10) (a % 10) k σ) 68 (5 * k))), some (vi ((md_inh (a / 10) (a % 10) k σ) 68 ((5 * k) + 1)))]) X (by rfl) (by omega) (by omega) (by rfl) dX10_heir_162 ?_
                    refine am_goto (tgt := 26) X dX10_heir_165 (by decide) ?_
                    refine am_fg [true, true, true, true, true, true, false, false] rfl (L' := [some (vr 63), some (vi a), some (vi (a / 10)), some (vi (a % 10)), some (vi (s + 1)), some (vi ((k : Int) + 1)), none, none]) rfl ?_
                    refine am_sg (md_inh (a / 10) (a % 10) (k + 1) σ) (by symm; show am_it _ (k + 1) σ = _; rw [am_it_succ]; show md_inh1 (a / 10) (a % 10) k (md_inh (a / 10) (a % 10) k σ) = _; unfold md_inh1; (repeat' split) <;> first | rfl | (exfalso; omega)) ?_
                    exact ih26 _ (by omega) (k + 1) _ (by omega) (by (try subst s); (try simp only [hs]); show _ = am_sum (md_moved σ (a / 10) (a % 10)) k + md_moved σ (a / 10) (a % 10) k; unfold md_moved; (repeat' split) <;> omega) rfl
                · skip
                  refine am_iload_n (x := (a % 10)) X (by rfl) dX10_heir_129 ?_
                  refine am_goto (tgt := 135) X dX10_heir_130 (by decide) ?_
                  refine am_ast X 68 (5 * k) sh_68 (by omega) (by omega) dX10_heir_135 ?_
                  refine am_aload_n (x := 63) X (by rfl) dX10_heir_136 ?_
                  refine am_getr (c1 := 68) X 63 fl_X10_22 (by decide) sh_63 (by decide) (by rfl) dX10_heir_137 ?_
                  refine am_ic X (by decide) dX10_heir_140 ?_
                  refine am_iload (x := (k : Int)) X (by rfl) dX10_heir_141 ?_
                  refine am_mul (v := (5 * (k : Int))) X (by first | rfl | omega) (by omega) dX10_heir_143 ?_
                  refine am_ic X (by decide) dX10_heir_144 ?_
                  refine am_add (v := ((5 * (k : Int)) + 1)) X (by first | rfl | omega) (by omega) dX10_heir_145 ?_
                  refine am_iload (x := (md_inh (a / 10) (a % 10) k σ) 68 ((5 * k) + 1)) X (by rfl) dX10_heir_146 ?_
                  refine am_iload_n (x := (a / 10)) X (by rfl) dX10_heir_148 ?_
                  refine am_icmp_ne (tgt := 156) X dX10_heir_149 (by decide) (fun h149 => ?_) (fun h149 => ?_)
                  · skip
                    refine am_iload (x := (md_inh (a / 10) (a % 10) k σ) 68 ((5 * k) + 1)) X (by rfl) dX10_heir_156 ?_
                    refine am_ast X 68 ((5 * k) + 1) sh_68 (by omega) (by omega) dX10_heir_158 ?_
                    refine am_inc (x := s) (v := (s + 1)) (L' := [some (vr 63), some (vi a), some (vi (a / 10)), some (vi (a % 10)), some (vi (s + 1)), some (vi (k : Int)), some (vi ((md_inh (a / 10) (a % 10) k σ) 68 (5 * k))), some (vi ((md_inh (a / 10) (a % 10) k σ) 68 ((5 * k) + 1)))]) X (by rfl) (by omega) (by omega) (by rfl) dX10_heir_159 ?_
                    refine am_inc (x := (k : Int)) (v := ((k : Int) + 1)) (L' := [some (vr 63), some (vi a), some (vi (a / 10)), some (vi (a % 10)), some (vi (s + 1)), some (vi ((k : Int) + 1)), some (vi ((md_inh (a / 10) (a % 10) k σ) 68 (5 * k))), some (vi ((md_inh (a / 10) (a % 10) k σ) 68 ((5 * k) + 1)))]) X (by rfl) (by omega) (by omega) (by rfl) dX10_heir_162 ?_
                    refine am_goto (tgt := 26) X dX10_heir_165 (by decide) ?_
                    refine am_fg [true, true, true, true, true, true, false, false] rfl (L' := [some (vr 63), some (vi a), some (vi (a / 10)), some (vi (a % 10)), some (vi (s + 1)), some (vi ((k : Int) + 1)), none, none]) rfl ?_
                    refine am_sg (md_inh (a / 10) (a % 10) (k + 1) σ) (by symm; show am_it _ (k + 1) σ = _; rw [am_it_succ]; show md_inh1 (a / 10) (a % 10) k (md_inh (a / 10) (a % 10) k σ) = _; unfold md_inh1; (repeat' split) <;> first | rfl | (exfalso; omega)) ?_
                    exact ih26 _ (by omega) (k + 1) _ (by omega) (by (try subst s); (try simp only [hs]); show _ = am_sum (md_moved σ (a / 10) (a % 10)) k + md_moved σ (a / 10) (a % 10) k; unfold md_moved; (repeat' split) <;> omega) rfl
                  · skip
                    refine am_iload_n (x := (a % 10)) X (by rfl) dX10_heir_152 ?_
                    refine am_goto (tgt := 158) X dX10_heir_153 (by decide) ?_
                    refine am_ast X 68 ((5 * k) + 1) sh_68 (by omega) (by omega) dX10_heir_158 ?_
                    refine am_inc (x := s) (v := (s + 1)) (L' := [some (vr 63), some (vi a), some (vi (a / 10)), some (vi (a % 10)), some (vi (s + 1)), some (vi (k : Int)), some (vi ((md_inh (a / 10) (a % 10) k σ) 68 (5 * k))), some (vi ((md_inh (a / 10) (a % 10) k σ) 68 ((5 * k) + 1)))]) X (by rfl) (by omega) (by omega) (by rfl) dX10_heir_159 ?_
                    refine am_inc (x := (k : Int)) (v := ((k : Int) + 1)) (L' := [some (vr 63), some (vi a), some (vi (a / 10)), some (vi (a % 10)), some (vi (s + 1)), some (vi ((k : Int) + 1)), some (vi ((md_inh (a / 10) (a % 10) k σ) 68 (5 * k))), some (vi ((md_inh (a / 10) (a % 10) k σ) 68 ((5 * k) + 1)))]) X (by rfl) (by omega) (by omega) (by rfl) dX10_heir_162 ?_
                    refine am_goto (tgt := 26) X dX10_heir_165 (by decide) ?_
                    refine am_fg [true, true, true, true, true, true, false, false] rfl (L' := [some (vr 63), some (vi a), some (vi (a / 10)), some (vi (a % 10)), some (vi (s + 1)), some (vi ((k : Int) + 1)), none, none]) rfl ?_
                    refine am_sg (md_inh (a / 10) (a % 10) (k + 1) σ) (by symm; show am_it _ (k + 1) σ = _; rw [am_it_succ]; show md_inh1 (a / 10) (a % 10) k (md_inh (a / 10) (a % 10) k σ) = _; unfold md_inh1; (repeat' split) <;> first | rfl | (exfalso; omega)) ?_
                    exact ih26 _ (by omega) (k + 1) _ (by omega) (by (try subst s); (try simp only [hs]); show _ = am_sum (md_moved σ (a / 10) (a % 10)) k + md_moved σ (a / 10) (a % 10) k; unfold md_moved; (repeat' split) <;> omega) rfl
              · skip
                refine am_aload_n (x := 63) X (by rfl) dX10_heir_95 ?_
                refine am_iload (x := (k : Int)) X (by rfl) dX10_heir_96 ?_
                refine am_aload_n (x := 63) X (by rfl) dX10_heir_98 ?_
                refine am_getr (c1 := 68) X 63 fl_X10_22 (by decide) sh_63 (by decide) (by rfl) dX10_heir_99 ?_
                refine am_ic X (by decide) dX10_heir_102 ?_
                refine am_iload (x := (k : Int)) X (by rfl) dX10_heir_103 ?_
                refine am_mul (v := (5 * (k : Int))) X (by first | rfl | omega) (by omega) dX10_heir_105 ?_
                refine am_ic X (by decide) dX10_heir_106 ?_
                refine am_add (v := ((5 * (k : Int)) + 2)) X (by first | rfl | omega) (by omega) dX10_heir_107 ?_
                refine am_ald (v := (md_inh (a / 10) (a % 10) k σ) 68 ((5 * k) + 2)) X 68 ((5 * k) + 2) sh_68 (by omega) (by omega) (rfl) dX10_heir_108 ?_
                refine am_callVv (ci := 9) X hY lk_X10_249 mf_X10_loses (m_X10_loses (k : Int) k (by omega) (by omega) ((md_inh (a / 10) (a % 10) k σ) 68 ((5 * k) + 2)) (md_inh (a / 10) (a % 10) k σ) (by omega)) (by decide) (by decide) (Nat.le_refl _) (Nat.le_refl _) sh_63 rfl rfl rfl (Nat.le_of_ble_eq_true rfl) dX10_heir_109 (fun sh109 σ109 hp109 => ?_)
                obtain ⟨rfl, rfl, hq109⟩ := hp109
                refine am_goto (tgt := 162) X dX10_heir_112 (by decide) ?_
                refine am_inc (x := (k : Int)) (v := ((k : Int) + 1)) (L' := [some (vr 63), some (vi a), some (vi (a / 10)), some (vi (a % 10)), some (vi s), some (vi ((k : Int) + 1)), some (vi ((md_inh (a / 10) (a % 10) k σ) 68 (5 * k))), some (vi ((md_inh (a / 10) (a % 10) k σ) 68 ((5 * k) + 1)))]) X (by rfl) (by omega) (by omega) (by rfl) dX10_heir_162 ?_
                refine am_goto (tgt := 26) X dX10_heir_165 (by decide) ?_
                refine am_fg [true, true, true, true, true, true, false, false] rfl (L' := [some (vr 63), some (vi a), some (vi (a / 10)), some (vi (a % 10)), some (vi s), some (vi ((k : Int) + 1)), none, none]) rfl ?_
                refine am_sg (md_inh (a / 10) (a % 10) (k + 1) σ) (by symm; show am_it _ (k + 1) σ = _; rw [am_it_succ]; show md_inh1 (a / 10) (a % 10) k (md_inh (a / 10) (a % 10) k σ) = _; unfold md_inh1; (repeat' split) <;> first | rfl | (exfalso; omega)) ?_
                exact ih26 _ (by omega) (k + 1) _ (by omega) (by (try subst s); (try simp only [hs]); show _ = am_sum (md_moved σ (a / 10) (a % 10)) k + md_moved σ (a / 10) (a % 10) k; unfold md_moved; (repeat' split) <;> omega) rfl
          · skip
            refine am_iload (x := (md_inh (a / 10) (a % 10) k σ) 68 ((5 * k) + 1)) X (by rfl) dX10_heir_74 ?_
            refine am_iload_n (x := (a / 10)) X (by rfl) dX10_heir_76 ?_
            refine am_icmp_eq (tgt := 83) X dX10_heir_77 (by decide) (fun h77 => ?_) (fun h77 => ?_)
            · skip
              refine am_iload (x := (md_inh (a / 10) (a % 10) k σ) 68 (5 * k)) X (by rfl) dX10_heir_83 ?_
              refine am_iload_n (x := (a % 10)) X (by rfl) dX10_heir_85 ?_
              refine am_icmp_eq (tgt := 95) X dX10_heir_86 (by decide) (fun h86 => ?_) (fun h86 => ?_)
              · skip
                refine am_aload_n (x := 63) X (by rfl) dX10_heir_95 ?_
                refine am_iload (x := (k : Int)) X (by rfl) dX10_heir_96 ?_
                refine am_aload_n (x := 63) X (by rfl) dX10_heir_98 ?_
                refine am_getr (c1 := 68) X 63 fl_X10_22 (by decide) sh_63 (by decide) (by rfl) dX10_heir_99 ?_
                refine am_ic X (by decide) dX10_heir_102 ?_
                refine am_iload (x := (k : Int)) X (by rfl) dX10_heir_103 ?_
                refine am_mul (v := (5 * (k : Int))) X (by first | rfl | omega) (by omega) dX10_heir_105 ?_
                refine am_ic X (by decide) dX10_heir_106 ?_
                refine am_add (v := ((5 * (k : Int)) + 2)) X (by first | rfl | omega) (by omega) dX10_heir_107 ?_
                refine am_ald (v := (md_inh (a / 10) (a % 10) k σ) 68 ((5 * k) + 2)) X 68 ((5 * k) + 2) sh_68 (by omega) (by omega) (rfl) dX10_heir_108 ?_
                refine am_callVv (ci := 9) X hY lk_X10_249 mf_X10_loses (m_X10_loses (k : Int) k (by omega) (by omega) ((md_inh (a / 10) (a % 10) k σ) 68 ((5 * k) + 2)) (md_inh (a / 10) (a % 10) k σ) (by omega)) (by decide) (by decide) (Nat.le_refl _) (Nat.le_refl _) sh_63 rfl rfl rfl (Nat.le_of_ble_eq_true rfl) dX10_heir_109 (fun sh109 σ109 hp109 => ?_)
                obtain ⟨rfl, rfl, hq109⟩ := hp109
                refine am_goto (tgt := 162) X dX10_heir_112 (by decide) ?_
                refine am_inc (x := (k : Int)) (v := ((k : Int) + 1)) (L' := [some (vr 63), some (vi a), some (vi (a / 10)), some (vi (a % 10)), some (vi s), some (vi ((k : Int) + 1)), some (vi ((md_inh (a / 10) (a % 10) k σ) 68 (5 * k))), some (vi ((md_inh (a / 10) (a % 10) k σ) 68 ((5 * k) + 1)))]) X (by rfl) (by omega) (by omega) (by rfl) dX10_heir_162 ?_
                refine am_goto (tgt := 26) X dX10_heir_165 (by decide) ?_
                refine am_fg [true, true, true, true, true, true, false, false] rfl (L' := [some (vr 63), some (vi a), some (vi (a / 10)), some (vi (a % 10)), some (vi s), some (vi ((k : Int) + 1)), none, none]) rfl ?_
                refine am_sg (md_inh (a / 10) (a % 10) (k + 1) σ) (by symm; show am_it _ (k + 1) σ = _; rw [am_it_succ]; show md_inh1 (a / 10) (a % 10) k (md_inh (a / 10) (a % 10) k σ) = _; unfold md_inh1; (repeat' split) <;> first | rfl | (exfalso; omega)) ?_
                exact ih26 _ (by omega) (k + 1) _ (by omega) (by (try subst s); (try simp only [hs]); show _ = am_sum (md_moved σ (a / 10) (a % 10)) k + md_moved σ (a / 10) (a % 10) k; unfold md_moved; (repeat' split) <;> omega) rfl
              · skip
                refine am_iload (x := (md_inh (a / 10) (a % 10) k σ) 68 ((5 * k) + 1)) X (by rfl) dX10_heir_89 ?_
                refine am_iload_n (x := (a % 10)) X (by rfl) dX10_heir_91 ?_
                refine am_icmp_ne (tgt := 115) X dX10_heir_92 (by decide) (fun h92 => ?_) (fun h92 => ?_)
                · skip
                  refine am_aload_n (x := 63) X (by rfl) dX10_heir_115 ?_
                  refine am_getr (c1 := 68) X 63 fl_X10_22 (by decide) sh_63 (by decide) (by rfl) dX10_heir_116 ?_
                  refine am_ic X (by decide) dX10_heir_119 ?_
                  refine am_iload (x := (k : Int)) X (by rfl) dX10_heir_120 ?_
                  refine am_mul (v := (5 * (k : Int))) X (by first | rfl | omega) (by omega) dX10_heir_122 ?_
                  refine am_iload (x := (md_inh (a / 10) (a % 10) k σ) 68 (5 * k)) X (by rfl) dX10_heir_123 ?_
                  refine am_iload_n (x := (a / 10)) X (by rfl) dX10_heir_125 ?_
                  refine am_icmp_ne (tgt := 133) X dX10_heir_126 (by decide) (fun h126 => ?_) (fun h126 => ?_)
                  · skip
                    refine am_iload (x := (md_inh (a / 10) (a % 10) k σ) 68 (5 * k)) X (by rfl) dX10_heir_133 ?_
                    refine am_ast X 68 (5 * k) sh_68 (by omega) (by omega) dX10_heir_135 ?_
                    refine am_aload_n (x := 63) X (by rfl) dX10_heir_136 ?_
                    refine am_getr (c1 := 68) X 63 fl_X10_22 (by decide) sh_63 (by decide) (by rfl) dX10_heir_137 ?_
                    refine am_ic X (by decide) dX10_heir_140 ?_
                    refine am_iload (x := (k : Int)) X (by rfl) dX10_heir_141 ?_
                    refine am_mul (v := (5 * (k : Int))) X (by first | rfl | omega) (by omega) dX10_heir_143 ?_
                    refine am_ic X (by decide) dX10_heir_144 ?_
                    refine am_add (v := ((5 * (k : Int)) + 1)) X (by first | rfl | omega) (by omega) dX10_heir_145 ?_
                    refine am_iload (x := (md_inh (a / 10) (a % 10) k σ) 68 ((5 * k) + 1)) X (by rfl) dX10_heir_146 ?_
                    refine am_iload_n (x := (a / 10)) X (by rfl) dX10_heir_148 ?_
                    refine am_icmp_ne (tgt := 156) X dX10_heir_149 (by decide) (fun h149 => ?_) (fun h149 => ?_)
                    · skip
                      refine am_iload (x := (md_inh (a / 10) (a % 10) k σ) 68 ((5 * k) + 1)) X (by rfl) dX10_heir_156 ?_
                      refine am_ast X 68 ((5 * k) + 1) sh_68 (by omega) (by omega) dX10_heir_158 ?_
                      refine am_inc (x := s) (v := (s + 1)) (L' := [some (vr 63), some (vi a), some (vi (a / 10)), some (vi (a % 10)), some (vi (s + 1)), some (vi (k : Int)), some (vi ((md_inh (a / 10) (a % 10) k σ) 68 (5 * k))), some (vi ((md_inh (a / 10) (a % 10) k σ) 68 ((5 * k) + 1)))]) X (by rfl) (by omega) (by omega) (by rfl) dX10_heir_159 ?_
                      refine am_inc (x := (k : Int)) (v := ((k : Int) + 1)) (L' := [some (vr 63), some (vi a), some (vi (a / 10)), some (vi (a % 10)), some (vi (s + 1)), some (vi ((k : Int) + 1)), some (vi ((md_inh (a / 10) (a % 10) k σ) 68 (5 * k))), some (vi ((md_inh (a / 10) (a % 10) k σ) 68 ((5 * k) + 1)))]) X (by rfl) (by omega) (by omega) (by rfl) dX10_heir_162 ?_
                      refine am_goto (tgt := 26) X dX10_heir_165 (by decide) ?_
                      refine am_fg [true, true, true, true, true, true, false, false] rfl (L' := [some (vr 63), some (vi a), some (vi (a / 10)), some (vi (a % 10)), some (vi (s + 1)), some (vi ((k : Int) + 1)), none, none]) rfl ?_
                      refine am_sg (md_inh (a / 10) (a % 10) (k + 1) σ) (by symm; show am_it _ (k + 1) σ = _; rw [am_it_succ]; show md_inh1 (a / 10) (a % 10) k (md_inh (a / 10) (a % 10) k σ) = _; unfold md_inh1; (repeat' split) <;> first | rfl | (exfalso; omega)) ?_
                      exact ih26 _ (by omega) (k + 1) _ (by omega) (by (try subst s); (try simp only [hs]); show _ = am_sum (md_moved σ (a / 10) (a % 10)) k + md_moved σ (a / 10) (a % 10) k; unfold md_moved; (repeat' split) <;> omega) rfl
                    · skip
                      refine am_iload_n (x := (a % 10)) X (by rfl) dX10_heir_152 ?_
                      refine am_goto (tgt := 158) X dX10_heir_153 (by decide) ?_
                      refine am_ast X 68 ((5 * k) + 1) sh_68 (by omega) (by omega) dX10_heir_158 ?_
                      refine am_inc (x := s) (v := (s + 1)) (L' := [some (vr 63), some (vi a), some (vi (a / 10)), some (vi (a % 10)), some (vi (s + 1)), some (vi (k : Int)), some (vi ((md_inh (a / 10) (a % 10) k σ) 68 (5 * k))), some (vi ((md_inh (a / 10) (a % 10) k σ) 68 ((5 * k) + 1)))]) X (by rfl) (by omega) (by omega) (by rfl) dX10_heir_159 ?_
                      refine am_inc (x := (k : Int)) (v := ((k : Int) + 1)) (L' := [some (vr 63), some (vi a), some (vi (a / 10)), some (vi (a % 10)), some (vi (s + 1)), some (vi ((k : Int) + 1)), some (vi ((md_inh (a / 10) (a % 10) k σ) 68 (5 * k))), some (vi ((md_inh (a / 10) (a % 10) k σ) 68 ((5 * k) + 1)))]) X (by rfl) (by omega) (by omega) (by rfl) dX10_heir_162 ?_
                      refine am_goto (tgt := 26) X dX10_heir_165 (by decide) ?_
                      refine am_fg [true, true, true, true, true, true, false, false] rfl (L' := [some (vr 63), some (vi a), some (vi (a / 10)), some (vi (a % 10)), some (vi (s + 1)), some (vi ((k : Int) + 1)), none, none]) rfl ?_
                      refine am_sg (md_inh (a / 10) (a % 10) (k + 1) σ) (by symm; show am_it _ (k + 1) σ = _; rw [am_it_succ]; show md_inh1 (a / 10) (a % 10) k (md_inh (a / 10) (a % 10) k σ) = _; unfold md_inh1; (repeat' split) <;> first | rfl | (exfalso; omega)) ?_
                      exact ih26 _ (by omega) (k + 1) _ (by omega) (by (try subst s); (try simp only [hs]); show _ = am_sum (md_moved σ (a / 10) (a % 10)) k + md_moved σ (a / 10) (a % 10) k; unfold md_moved; (repeat' split) <;> omega) rfl
                  · skip
                    refine am_iload_n (x := (a % 10)) X (by rfl) dX10_heir_129 ?_
                    refine am_goto (tgt := 135) X dX10_heir_130 (by decide) ?_
                    refine am_ast X 68 (5 * k) sh_68 (by omega) (by omega) dX10_heir_135 ?_
                    refine am_aload_n (x := 63) X (by rfl) dX10_heir_136 ?_
                    refine am_getr (c1 := 68) X 63 fl_X10_22 (by decide) sh_63 (by decide) (by rfl) dX10_heir_137 ?_
                    refine am_ic X (by decide) dX10_heir_140 ?_
                    refine am_iload (x := (k : Int)) X (by rfl) dX10_heir_141 ?_
                    refine am_mul (v := (5 * (k : Int))) X (by first | rfl | omega) (by omega) dX10_heir_143 ?_
                    refine am_ic X (by decide) dX10_heir_144 ?_
                    refine am_add (v := ((5 * (k : Int)) + 1)) X (by first | rfl | omega) (by omega) dX10_heir_145 ?_
                    refine am_iload (x := (md_inh (a / 10) (a % 10) k σ) 68 ((5 * k) + 1)) X (by rfl) dX10_heir_146 ?_
                    refine am_iload_n (x := (a / 10)) X (by rfl) dX10_heir_148 ?_
                    refine am_icmp_ne (tgt := 156) X dX10_heir_149 (by decide) (fun h149 => ?_) (fun h149 => ?_)
                    · skip
                      refine am_iload (x := (md_inh (a / 10) (a % 10) k σ) 68 ((5 * k) + 1)) X (by rfl) dX10_heir_156 ?_
                      refine am_ast X 68 ((5 * k) + 1) sh_68 (by omega) (by omega) dX10_heir_158 ?_
                      refine am_inc (x := s) (v := (s + 1)) (L' := [some (vr 63), some (vi a), some (vi (a / 10)), some (vi (a % 10)), some (vi (s + 1)), some (vi (k : Int)), some (vi ((md_inh (a / 10) (a % 10) k σ) 68 (5 * k))), some (vi ((md_inh (a / 10) (a % 10) k σ) 68 ((5 * k) + 1)))]) X (by rfl) (by omega) (by omega) (by rfl) dX10_heir_159 ?_
                      refine am_inc (x := (k : Int)) (v := ((k : Int) + 1)) (L' := [some (vr 63), some (vi a), some (vi (a / 10)), some (vi (a % 10)), some (vi (s + 1)), some (vi ((k : Int) + 1)), some (vi ((md_inh (a / 10) (a % 10) k σ) 68 (5 * k))), some (vi ((md_inh (a / 10) (a % 10) k σ) 68 ((5 * k) + 1)))]) X (by rfl) (by omega) (by omega) (by rfl) dX10_heir_162 ?_
                      refine am_goto (tgt := 26) X dX10_heir_165 (by decide) ?_
                      refine am_fg [true, true, true, true, true, true, false, false] rfl (L' := [some (vr 63), some (vi a), some (vi (a / 10)), some (vi (a % 10)), some (vi (s + 1)), some (vi ((k : Int) + 1)), none, none]) rfl ?_
                      refine am_sg (md_inh (a / 10) (a % 10) (k + 1) σ) (by symm; show am_it _ (k + 1) σ = _; rw [am_it_succ]; show md_inh1 (a / 10) (a % 10) k (md_inh (a / 10) (a % 10) k σ) = _; unfold md_inh1; (repeat' split) <;> first | rfl | (exfalso; omega)) ?_
                      exact ih26 _ (by omega) (k + 1) _ (by omega) (by (try subst s); (try simp only [hs]); show _ = am_sum (md_moved σ (a / 10) (a % 10)) k + md_moved σ (a / 10) (a % 10) k; unfold md_moved; (repeat' split) <;> omega) rfl
                    · skip
                      refine am_iload_n (x := (a % 10)) X (by rfl) dX10_heir_152 ?_
                      refine am_goto (tgt := 158) X dX10_heir_153 (by decide) ?_
                      refine am_ast X 68 ((5 * k) + 1) sh_68 (by omega) (by omega) dX10_heir_158 ?_
                      refine am_inc (x := s) (v := (s + 1)) (L' := [some (vr 63), some (vi a), some (vi (a / 10)), some (vi (a % 10)), some (vi (s + 1)), some (vi (k : Int)), some (vi ((md_inh (a / 10) (a % 10) k σ) 68 (5 * k))), some (vi ((md_inh (a / 10) (a % 10) k σ) 68 ((5 * k) + 1)))]) X (by rfl) (by omega) (by omega) (by rfl) dX10_heir_159 ?_
                      refine am_inc (x := (k : Int)) (v := ((k : Int) + 1)) (L' := [some (vr 63), some (vi a), some (vi (a / 10)), some (vi (a % 10)), some (vi (s + 1)), some (vi ((k : Int) + 1)), some (vi ((md_inh (a / 10) (a % 10) k σ) 68 (5 * k))), some (vi ((md_inh (a / 10) (a % 10) k σ) 68 ((5 * k) + 1)))]) X (by rfl) (by omega) (by omega) (by rfl) dX10_heir_162 ?_
                      refine am_goto (tgt := 26) X dX10_heir_165 (by decide) ?_
                      refine am_fg [true, true, true, true, true, true, false, false] rfl (L' := [some (vr 63), some (vi a), some (vi (a / 10)), some (vi (a % 10)), some (vi (s + 1)), some (vi ((k : Int) + 1)), none, none]) rfl ?_
                      refine am_sg (md_inh (a / 10) (a % 10) (k + 1) σ) (by symm; show am_it _ (k + 1) σ = _; rw [am_it_succ]; show md_inh1 (a / 10) (a % 10) k (md_inh (a / 10) (a % 10) k σ) = _; unfold md_inh1; (repeat' split) <;> first | rfl | (exfalso; omega)) ?_
                      exact ih26 _ (by omega) (k + 1) _ (by omega) (by (try subst s); (try simp only [hs]); show _ = am_sum (md_moved σ (a / 10) (a % 10)) k + md_moved σ (a / 10) (a % 10) k; unfold md_moved; (repeat' split) <;> omega) rfl
                · skip
                  refine am_aload_n (x := 63) X (by rfl) dX10_heir_95 ?_
                  refine am_iload (x := (k : Int)) X (by rfl) dX10_heir_96 ?_
                  refine am_aload_n (x := 63) X (by rfl) dX10_heir_98 ?_
                  refine am_getr (c1 := 68) X 63 fl_X10_22 (by decide) sh_63 (by decide) (by rfl) dX10_heir_99 ?_
                  refine am_ic X (by decide) dX10_heir_102 ?_
                  refine am_iload (x := (k : Int)) X (by rfl) dX10_heir_103 ?_
                  refine am_mul (v := (5 * (k : Int))) X (by first | rfl | omega) (by omega) dX10_heir_105 ?_
                  refine am_ic X (by decide) dX10_heir_106 ?_
                  refine am_add (v := ((5 * (k : Int)) + 2)) X (by first | rfl | omega) (by omega) dX10_heir_107 ?_
                  refine am_ald (v := (md_inh (a / 10) (a % 10) k σ) 68 ((5 * k) + 2)) X 68 ((5 * k) + 2) sh_68 (by omega) (by omega) (rfl) dX10_heir_108 ?_
                  refine am_callVv (ci := 9) X hY lk_X10_249 mf_X10_loses (m_X10_loses (k : Int) k (by omega) (by omega) ((md_inh (a / 10) (a % 10) k σ) 68 ((5 * k) + 2)) (md_inh (a / 10) (a % 10) k σ) (by omega)) (by decide) (by decide) (Nat.le_refl _) (Nat.le_refl _) sh_63 rfl rfl rfl (Nat.le_of_ble_eq_true rfl) dX10_heir_109 (fun sh109 σ109 hp109 => ?_)
                  obtain ⟨rfl, rfl, hq109⟩ := hp109
                  refine am_goto (tgt := 162) X dX10_heir_112 (by decide) ?_
                  refine am_inc (x := (k : Int)) (v := ((k : Int) + 1)) (L' := [some (vr 63), some (vi a), some (vi (a / 10)), some (vi (a % 10)), some (vi s), some (vi ((k : Int) + 1)), some (vi ((md_inh (a / 10) (a % 10) k σ) 68 (5 * k))), some (vi ((md_inh (a / 10) (a % 10) k σ) 68 ((5 * k) + 1)))]) X (by rfl) (by omega) (by omega) (by rfl) dX10_heir_162 ?_
                  refine am_goto (tgt := 26) X dX10_heir_165 (by decide) ?_
                  refine am_fg [true, true, true, true, true, true, false, false] rfl (L' := [some (vr 63), some (vi a), some (vi (a / 10)), some (vi (a % 10)), some (vi s), some (vi ((k : Int) + 1)), none, none]) rfl ?_
                  refine am_sg (md_inh (a / 10) (a % 10) (k + 1) σ) (by symm; show am_it _ (k + 1) σ = _; rw [am_it_succ]; show md_inh1 (a / 10) (a % 10) k (md_inh (a / 10) (a % 10) k σ) = _; unfold md_inh1; (repeat' split) <;> first | rfl | (exfalso; omega)) ?_
                  exact ih26 _ (by omega) (k + 1) _ (by omega) (by (try subst s); (try simp only [hs]); show _ = am_sum (md_moved σ (a / 10) (a % 10)) k + md_moved σ (a / 10) (a % 10) k; unfold md_moved; (repeat' split) <;> omega) rfl
            · skip
              refine am_goto (tgt := 162) X dX10_heir_80 (by decide) ?_
              refine am_inc (x := (k : Int)) (v := ((k : Int) + 1)) (L' := [some (vr 63), some (vi a), some (vi (a / 10)), some (vi (a % 10)), some (vi s), some (vi ((k : Int) + 1)), some (vi ((md_inh (a / 10) (a % 10) k σ) 68 (5 * k))), some (vi ((md_inh (a / 10) (a % 10) k σ) 68 ((5 * k) + 1)))]) X (by rfl) (by omega) (by omega) (by rfl) dX10_heir_162 ?_
              refine am_goto (tgt := 26) X dX10_heir_165 (by decide) ?_
              refine am_fg [true, true, true, true, true, true, false, false] rfl (L' := [some (vr 63), some (vi a), some (vi (a / 10)), some (vi (a % 10)), some (vi s), some (vi ((k : Int) + 1)), none, none]) rfl ?_
              refine am_sg (md_inh (a / 10) (a % 10) (k + 1) σ) (by symm; show am_it _ (k + 1) σ = _; rw [am_it_succ]; show md_inh1 (a / 10) (a % 10) k (md_inh (a / 10) (a % 10) k σ) = _; unfold md_inh1; (repeat' split) <;> first | rfl | (exfalso; omega)) ?_
              exact ih26 _ (by omega) (k + 1) _ (by omega) (by (try subst s); (try simp only [hs]); show _ = am_sum (md_moved σ (a / 10) (a % 10)) k + md_moved σ (a / 10) (a % 10) k; unfold md_moved; (repeat' split) <;> omega) rfl
    refine am_sg (md_inh (a / 10) (a % 10) 0 σ) (rfl) ?_
    exact hL26 _ 0 0 (by omega) (rfl) rfl
  · skip
    refine am_ic X (by decide) dX10_heir_8 ?_
    exact hret _ _ _ _ _ dX10_heir_9 rfl rfl (by exact ⟨rfl, Or.inl ⟨by omega, rfl, rfl⟩⟩)

set_option maxHeartbeats 4000000 in
set_option maxRecDepth 100000 in
theorem m_X10_copies (ca cb n : Nat) (hne : ca ≠ cb) (hn : n ≤ 384) (hsa : SH[ca]? = some (0, n, [])) (hsb : SH[cb]? = some (0, n, [])) (σ : am_H) : am_Mv yX10_copies cX10_copies 3 none 0 0 0 [vr ca, vr cb] SH σ (fun sh' σ' => SH = sh' ∧ am_cp σ ca cb 0 0 n = σ' ∧ True) := by
  refine am_Mv_of (by decide +kernel) (Nat.le_of_ble_eq_true rfl) (fun K X hY hI hret => ?_)
  show am_G K 0 [some (vr ca), some (vr cb), none] [] SH σ
  refine am_ic X (by decide) dX10_copies_0 ?_
  refine am_istore_n (i := 2) (L' := [some (vr ca), some (vr cb), some (vi 0)]) X rfl (Nat.le_of_ble_eq_true rfl) (by rfl) dX10_copies_1 ?_
  have hL2 : ∀ (m2 : Nat) (k : Nat) (hk : k ≤ n) (hm2 : n - k = m2), am_G K 2 [some (vr ca), some (vr cb), some (vi (k : Int))] [] SH (am_cp σ ca cb 0 0 k) := by
    intro m2
    induction m2 using Nat.strongRecOn with
    | ind m2 ih2 =>
    intro k hk hm2
    refine am_iload_n (x := (k : Int)) X (by rfl) dX10_copies_2 ?_
    refine am_aload_n (x := ca) X (by rfl) dX10_copies_3 ?_
    refine am_alen X ca hsa (by decide) (by omega) dX10_copies_4 ?_
    refine am_icmp_ge (tgt := 20) X dX10_copies_5 (by decide) (fun h5 => ?_) (fun h5 => ?_)
    · skip
      exact hret _ _ _ _ dX10_copies_20 rfl rfl (by rw [show n = k by omega]; exact ⟨rfl, rfl, trivial⟩)
    · skip
      refine am_aload_n (x := cb) X (by rfl) dX10_copies_8 ?_
      refine am_iload_n (x := (k : Int)) X (by rfl) dX10_copies_9 ?_
      refine am_aload_n (x := ca) X (by rfl) dX10_copies_10 ?_
      refine am_iload_n (x := (k : Int)) X (by rfl) dX10_copies_11 ?_
      refine am_ald (v := (σ ca k)) X ca k hsa (by omega) (by omega) (am_cp0_at hne) dX10_copies_12 ?_
      refine am_ast X cb k hsb (by omega) (by omega) dX10_copies_13 ?_
      refine am_inc (x := (k : Int)) (v := ((k : Int) + 1)) (L' := [some (vr ca), some (vr cb), some (vi ((k : Int) + 1))]) X (by rfl) (by omega) (by omega) (by rfl) dX10_copies_14 ?_
      refine am_goto (tgt := 2) X dX10_copies_17 (by decide) ?_
      refine am_sg (am_cp σ ca cb 0 0 (k + 1)) (am_cp0_s) ?_
      exact ih2 _ (by omega) (k + 1) (by omega) rfl
  refine am_sg (am_cp σ ca cb 0 0 0) ((am_cp0_0 σ ca cb).symm) ?_
  exact hL2 _ 0 (by omega) rfl
