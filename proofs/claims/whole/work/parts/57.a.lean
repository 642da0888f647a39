set_option maxHeartbeats 4000000 in
set_option maxRecDepth 100000 in
theorem m_X3_faultOfTape (σ : am_H) (hta : 0 ≤ σ 9 6 ∧ σ 9 6 ≤ 120) : am_Mi yX3_faultOfTape cX3_faultOfTape 3 (some .int) 4 0 0 [vr 9] SH σ (fun r sh' σ' => SH = sh' ∧ lx_fr σ σ' ∧ ((0 ≤ r ∧ r ≤ 120 ∧ lx_bad (σ 10) (σ 9 6).toNat r.toNat) ∨ (r = -1 ∧ ∃ rc, lx_cmp (σ 10) (σ 9 6).toNat = some rc ∧ σ' 9 8 = (rc.length : Int) ∧ rc = rcl σ' 12 rc.length ∧ rc.length ≤ 121))) := by
  refine am_Mi_of (by decide +kernel) (Nat.le_of_ble_eq_true rfl) (fun K X hY hI hret => ?_)
  show am_G K 0 [some (vr 9), none, none] [] SH σ
  refine am_aload_n (x := 9) X (by rfl) dX3_faultOfTape_0 ?_
  refine am_ic X (by decide) dX3_faultOfTape_1 ?_
  refine am_puti X 9 fl_X3_41 rfl rfl sh_9 (by decide) dX3_faultOfTape_2 ?_
  refine am_aload_n (x := 9) X (by rfl) dX3_faultOfTape_5 ?_
  refine am_ic X (by decide) dX3_faultOfTape_6 ?_
  refine am_puti X 9 fl_X3_50 rfl rfl sh_9 (by decide) dX3_faultOfTape_7 ?_
  refine am_aload_n (x := 9) X (by rfl) dX3_faultOfTape_10 ?_
  refine am_ic X (by decide) dX3_faultOfTape_11 ?_
  refine am_puti X 9 fl_X3_53 rfl rfl sh_9 (by decide) dX3_faultOfTape_12 ?_
  refine am_aload_n (x := 9) X (by rfl) dX3_faultOfTape_15 ?_
  refine am_ic X (by decide) dX3_faultOfTape_16 ?_
  refine am_puti X 9 fl_X3_56 rfl rfl sh_9 (by decide) dX3_faultOfTape_17 ?_
  refine am_aload_n (x := 9) X (by rfl) dX3_faultOfTape_20 ?_
  refine am_ic X (by decide) dX3_faultOfTape_21 ?_
  refine am_putz X 9 fl_X3_59 rfl rfl sh_9 (by decide) (by first | exact Or.inl rfl | exact Or.inr rfl | omega) dX3_faultOfTape_22 ?_
  refine am_aload_n (x := 9) X (by rfl) dX3_faultOfTape_25 ?_
  refine am_ic X (by decide) dX3_faultOfTape_26 ?_
  refine am_putz X 9 fl_X3_63 rfl rfl sh_9 (by decide) (by first | exact Or.inl rfl | exact Or.inr rfl | omega) dX3_faultOfTape_27 ?_
  refine am_ic X (by decide) dX3_faultOfTape_30 ?_
  refine am_istore_n (i := 1) (L' := [some (vr 9), some (vi 0), none]) X rfl (Nat.le_of_ble_eq_true rfl) (by rfl) dX3_faultOfTape_31 ?_
  have hL32 : ∀ (m32 : Nat) (k : Nat) (τ : am_H) (S : lx_S) (hkn : (k : Int) ≤ σ 9 6) (hrun : lx_run (σ 10) k 0 (lx_0g (σ 9 12)) = some S) (his : lx_is τ S) (hok : lx_ok k S) (hfr : lx_fr σ τ) (hm32 : (σ 9 6).toNat - k = m32), am_G K 32 [some (vr 9), some (vi (k : Int)), none] [] SH τ := by
    intro m32
    induction m32 using Nat.strongRecOn with
    | ind m32 ih32 =>
    intro k τ S hkn hrun his hok hfr hm32
    obtain ⟨c, ops, o, b, g, due, cd⟩ := S
    have e8 : τ 9 8 = (c.length : Int) := his.1.1
    have e9 : τ 9 9 = (ops.length : Int) := his.2.1.1
    have e10 : τ 9 10 = o := his.2.2.1
    have e11 : τ 9 11 = b := his.2.2.2.1
    have e12 : τ 9 12 = g := his.2.2.2.2.1
    have e13 : τ 9 13 = due := his.2.2.2.2.2.1
    have e14 : τ 9 14 = cd := his.2.2.2.2.2.2
    have hok2 := hok
    have hdu : due = 0 ∨ due = 1 := hok.2.2.2.1
    have ht6 : τ 9 6 = σ 9 6 := hfr 9 6 (by decide) (by decide) (Or.inr (by decide))
    have ht10 : τ 10 k = σ 10 k := hfr 10 k (by decide) (by decide) (Or.inl (by decide))
    
    refine am_iload_n (x := (k : Int)) X (by rfl) dX3_faultOfTape_32 ?_
    refine am_aload_n (x := 9) X (by rfl) dX3_faultOfTape_33 ?_
    refine am_get (v := τ 9 6) X 9 fl_X3_30 (by decide) sh_9 (by decide) (rfl) dX3_faultOfTape_34 ?_
    refine am_icmp_ge (tgt := 83) X dX3_faultOfTape_37 (by decide) (fun h37 => ?_) (fun h37 => ?_)
    · skip
      refine am_aload_n (x := 9) X (by rfl) dX3_faultOfTape_83 ?_
      refine am_get (v := τ 9 13) X 9 fl_X3_59 (by decide) sh_9 (by decide) (rfl) dX3_faultOfTape_84 ?_
      refine am_if_ne (tgt := 97) X dX3_faultOfTape_87 (by decide) (fun h87 => ?_) (fun h87 => ?_)
      · skip
        refine am_aload_n (x := 9) X (by rfl) dX3_faultOfTape_97 ?_
        refine am_get (v := τ 9 6) X 9 fl_X3_30 (by decide) sh_9 (by decide) (rfl) dX3_faultOfTape_98 ?_
        exact hret _ _ _ _ _ dX3_faultOfTape_101 rfl rfl (⟨rfl, hfr, Or.inl ⟨by omega, by omega, by rw [show (τ 9 6).toNat = k by omega]; exact lx_ge_bad (by omega) hrun (Or.inr ⟨by omega, Or.inl (show due ≠ 0 by omega)⟩)⟩⟩)
      · skip
        refine am_aload_n (x := 9) X (by rfl) dX3_faultOfTape_90 ?_
        refine am_get (v := τ 9 11) X 9 fl_X3_56 (by decide) sh_9 (by decide) (rfl) dX3_faultOfTape_91 ?_
        refine am_if_le (tgt := 102) X dX3_faultOfTape_94 (by decide) (fun h94 => ?_) (fun h94 => ?_)
        · skip
          obtain ⟨⟨k1, k2, k3⟩, k4, k5, k6, k7, k8, k9⟩ := hok2
          have kbd := lx_cnt_bd ops
          refine am_aload_n (x := 9) X (by rfl) dX3_faultOfTape_102 ?_
          refine am_ic X (by decide) dX3_faultOfTape_103 ?_
          refine am_callVv (ci := 3) X hY lk_X3_73 mf_X3_settle (m_X3_settle 1 c ops o b g due cd (by decide) τ his (by omega) (by omega)) (by decide) (by decide) (Nat.le_refl _) (Nat.le_refl _) sh_9 rfl rfl rfl (Nat.le_of_ble_eq_true rfl) dX3_faultOfTape_104 (fun sh104 σ104 hp104 => ?_)
          obtain ⟨rfl, hq104, hf104⟩ := hp104
          refine am_aload_n (x := 9) X (by rfl) dX3_faultOfTape_107 ?_
          refine am_sipush X (by decide) dX3_faultOfTape_108 ?_
          refine am_callVv (ci := 3) X hY lk_X3_77 mf_X3_emit (m_X3_emit 20059 σ104 (by have e8a : σ104 9 8 = ((lx_set 1 c ops o).1.length : Int) := hq104.1.1; obtain ⟨j1, j2, j3, j4, j5⟩ := lx_set_ok (Int.le_refl 1) ops c o k3; omega)) (by decide) (by decide) (Nat.le_refl _) (Nat.le_refl _) sh_9 rfl rfl rfl (Nat.le_of_ble_eq_true rfl) dX3_faultOfTape_111 (fun sh111 σ111 hp111 => ?_)
          obtain ⟨rfl, rfl, hq111⟩ := hp111
          have h9 := lx_is_emit hq104 20059
          obtain ⟨j1, j2, j3, j4, j5⟩ := lx_set_ok (Int.le_refl 1) ops c o k3
          refine am_ic X (by decide) dX3_faultOfTape_114 ?_
          exact hret _ _ _ _ _ dX3_faultOfTape_115 rfl rfl (⟨rfl, lx_fr_emit (lx_fr_tr hfr hf104), Or.inr ⟨rfl, 20059 :: (lx_set 1 c ops o).1, by rw [show (σ 9 6).toNat = k by omega]; exact lx_ge_cmp hrun (by omega), h9.1.1, h9.1.2, by show (lx_set 1 c ops o).1.length + 1 ≤ 121; omega⟩⟩)
        · skip
          refine am_aload_n (x := 9) X (by rfl) dX3_faultOfTape_97 ?_
          refine am_get (v := τ 9 6) X 9 fl_X3_30 (by decide) sh_9 (by decide) (rfl) dX3_faultOfTape_98 ?_
          exact hret _ _ _ _ _ dX3_faultOfTape_101 rfl rfl (⟨rfl, hfr, Or.inl ⟨by omega, by omega, by rw [show (τ 9 6).toNat = k by omega]; exact lx_ge_bad (by omega) hrun (Or.inr ⟨by omega, Or.inr (show 0 < b by omega)⟩)⟩⟩)
    · skip
      refine am_aload_n (x := 9) X (by rfl) dX3_faultOfTape_40 ?_
      refine am_get (v := τ 9 13) X 9 fl_X3_59 (by decide) sh_9 (by decide) (rfl) dX3_faultOfTape_41 ?_
      refine am_if_eq (tgt := 60) X dX3_faultOfTape_44 (by decide) (fun h44 => ?_) (fun h44 => ?_)
      · skip
        refine am_aload_n (x := 9) X (by rfl) dX3_faultOfTape_60 ?_
        refine am_aload_n (x := 9) X (by rfl) dX3_faultOfTape_61 ?_
        refine am_getr (c1 := 10) X 9 fl_X3_11 (by decide) sh_9 (by decide) (by rfl) dX3_faultOfTape_62 ?_
        refine am_iload_n (x := (k : Int)) X (by rfl) dX3_faultOfTape_65 ?_
        refine am_ald (v := τ 10 k) X 10 k sh_10 (by omega) (by omega) (rfl) dX3_faultOfTape_66 ?_
        refine am_callVi (ci := 3) X hY lk_X3_70 mf_X3_takeBehindOperand (m_X3_takeBehindOperand (τ 10 k) c ops o b g due cd τ his k hok (by omega) (by omega)) (by decide) (by decide) (Nat.le_refl _) (Nat.le_refl _) sh_9 rfl rfl rfl (Nat.le_of_ble_eq_true rfl) dX3_faultOfTape_67 (fun r67 sh67 σ67 hr67 hp67 => ?_)
        rw [ht10] at hp67
        obtain ⟨rfl, hq67⟩ := hp67
        
        refine am_istore_n (i := 2) (L' := [some (vr 9), some (vi (k : Int)), some (vi r67)]) X rfl (Nat.le_of_ble_eq_true rfl) (by rfl) dX3_faultOfTape_70 ?_
        refine am_iload_n (x := r67) X (by rfl) dX3_faultOfTape_71 ?_
        refine am_if_ne (tgt := 77) X dX3_faultOfTape_72 (by decide) (fun h72 => ?_) (fun h72 => ?_)
        · skip
          obtain ⟨Snew, hst, hisn⟩ : ∃ S1, lx_step (c, ops, o, b, g, due, cd) (σ 10 k) = some S1 ∧ lx_is σ67 S1 := by
            rcases hq67.2 with ⟨z, -⟩ | ⟨-, z⟩
            · exact absurd z (by omega)
            · exact z
          refine am_inc (x := (k : Int)) (v := ((k : Int) + 1)) (L' := [some (vr 9), some (vi ((k : Int) + 1)), some (vi r67)]) X (by rfl) (by omega) (by omega) (by rfl) dX3_faultOfTape_77 ?_
          refine am_goto (tgt := 32) X dX3_faultOfTape_80 (by decide) ?_
          refine am_fg [true, true, false] rfl (L' := [some (vr 9), some (vi ((k : Int) + 1)), none]) rfl ?_
          exact ih32 _ (by omega) (k + 1) σ67 Snew (by omega) (by rw [lx_run_add k 1 0 _ _ hrun, Nat.zero_add, lx_run, hst]; rfl) (hisn) (lx_ok_step hok hst) (lx_fr_tr hfr hq67.1) rfl
        · skip
          refine am_iload_n (x := (k : Int)) X (by rfl) dX3_faultOfTape_75 ?_
          exact hret _ _ _ _ _ dX3_faultOfTape_76 rfl rfl (⟨rfl, lx_fr_tr hfr hq67.1, Or.inl ⟨by omega, by omega, lx_ge_bad (by omega) hrun (Or.inl ⟨by omega, by rcases hq67.2 with ⟨-, z⟩ | ⟨z, -⟩; exact z; omega⟩)⟩⟩)
      · skip
        refine am_aload_n (x := 9) X (by rfl) dX3_faultOfTape_47 ?_
        refine am_aload_n (x := 9) X (by rfl) dX3_faultOfTape_48 ?_
        refine am_getr (c1 := 10) X 9 fl_X3_11 (by decide) sh_9 (by decide) (by rfl) dX3_faultOfTape_49 ?_
        refine am_iload_n (x := (k : Int)) X (by rfl) dX3_faultOfTape_52 ?_
        refine am_ald (v := τ 10 k) X 10 k sh_10 (by omega) (by omega) (rfl) dX3_faultOfTape_53 ?_
        refine am_callVi (ci := 3) X hY lk_X3_66 mf_X3_takeForOperand (m_X3_takeForOperand (τ 10 k) c ops o b g due cd τ his k hok (by omega) (by omega)) (by decide) (by decide) (Nat.le_refl _) (Nat.le_refl _) sh_9 rfl rfl rfl (Nat.le_of_ble_eq_true rfl) dX3_faultOfTape_54 (fun r54 sh54 σ54 hr54 hp54 => ?_)
        rw [ht10] at hp54
        obtain ⟨rfl, hq54⟩ := hp54
        refine am_goto (tgt := 70) X dX3_faultOfTape_57 (by decide) ?_
        
        refine am_istore_n (i := 2) (L' := [some (vr 9), some (vi (k : Int)), some (vi r54)]) X rfl (Nat.le_of_ble_eq_true rfl) (by rfl) dX3_faultOfTape_70 ?_
        refine am_iload_n (x := r54) X (by rfl) dX3_faultOfTape_71 ?_
        refine am_if_ne (tgt := 77) X dX3_faultOfTape_72 (by decide) (fun h72 => ?_) (fun h72 => ?_)
        · skip
          obtain ⟨Snew, hst, hisn⟩ : ∃ S1, lx_step (c, ops, o, b, g, due, cd) (σ 10 k) = some S1 ∧ lx_is σ54 S1 := by
            rcases hq54.2 with ⟨z, -⟩ | ⟨-, z⟩
            · exact absurd z (by omega)
            · exact z
          refine am_inc (x := (k : Int)) (v := ((k : Int) + 1)) (L' := [some (vr 9), some (vi ((k : Int) + 1)), some (vi r54)]) X (by rfl) (by omega) (by omega) (by rfl) dX3_faultOfTape_77 ?_
          refine am_goto (tgt := 32) X dX3_faultOfTape_80 (by decide) ?_
          refine am_fg [true, true, false] rfl (L' := [some (vr 9), some (vi ((k : Int) + 1)), none]) rfl ?_
          exact ih32 _ (by omega) (k + 1) σ54 Snew (by omega) (by rw [lx_run_add k 1 0 _ _ hrun, Nat.zero_add, lx_run, hst]; rfl) (hisn) (lx_ok_step hok hst) (lx_fr_tr hfr hq54.1) rfl
        · skip
          refine am_iload_n (x := (k : Int)) X (by rfl) dX3_faultOfTape_75 ?_
          exact hret _ _ _ _ _ dX3_faultOfTape_76 rfl rfl (⟨rfl, lx_fr_tr hfr hq54.1, Or.inl ⟨by omega, by omega, lx_ge_bad (by omega) hrun (Or.inl ⟨by omega, by rcases hq54.2 with ⟨-, z⟩ | ⟨z, -⟩; exact z; omega⟩)⟩⟩)
  exact hL32 _ 0 (am_up (am_up (am_up (am_up (am_up (am_up σ 9 8 0) 9 9 0) 9 10 0) 9 11 0) 9 13 1) 9 14 0) (lx_0g (σ 9 12)) (by omega) (rfl) (by refine ⟨⟨?_, ?_⟩, ⟨?_, ?_⟩, ?_⟩ <;> simp [am_up, lx_0g, rcl]) (by refine ⟨⟨rfl, rfl, fun p hp => by cases hp⟩, by decide, fun q => absurd q (by decide), Or.inr rfl, Or.inl rfl, fun q => absurd q (by decide), Nat.le_refl _⟩) (lx_fr_up (lx_fr_up (lx_fr_up (lx_fr_up (lx_fr_up (lx_fr_up (lx_fr_rf σ) (by decide)) (by decide)) (by decide)) (by decide)) (by decide)) (by decide)) rfl

set_option maxHeartbeats 4000000 in
set_option maxRecDepth 100000 in
theorem m_X3_adoptTape (σ : am_H) (hta : 0 ≤ σ 9 6 ∧ σ 9 6 ≤ 120) : am_Mi yX3_adoptTape cX3_adoptTape 2 (some .int) 5 0 0 [vr 9] SH σ (fun r sh' σ' => SH = sh' ∧ ((∀ c k : Nat, c ≠ 9 → c ≠ 11 → c ≠ 12 → c ≠ 13 → σ' c k = σ c k) ∧ σ' 9 6 = 0) ∧ ((∃ f : Nat, r = -100 - (f : Int) ∧ lx_bad (σ 10) (σ 9 6).toNat f ∧ σ' 9 7 = σ 9 7 ∧ ∀ k, σ' 11 k = σ 11 k) ∨ (r = 1 ∧ ∃ rc, lx_cmp (σ 10) (σ 9 6).toNat = some rc ∧ σ' 9 7 = (rc.length : Int) ∧ rc = rcl σ' 11 rc.length ∧ rc.length ≤ 121))) := by
  refine am_Mi_of (by decide +kernel) (Nat.le_of_ble_eq_true rfl) (fun K X hY hI hret => ?_)
  show am_G K 0 [some (vr 9), none] [] SH σ
  refine am_aload_n (x := 9) X (by rfl) dX3_adoptTape_0 ?_
  refine am_callVi (ci := 3) X hY lk_X3_37 mf_X3_faultOfTape (m_X3_faultOfTape σ hta) (by decide) (by decide) (Nat.le_refl _) (Nat.le_refl _) sh_9 rfl rfl rfl (Nat.le_of_ble_eq_true rfl) dX3_adoptTape_1 (fun r1 sh1 σ1 hr1 hp1 => ?_)
  obtain ⟨rfl, hq1⟩ := hp1
  refine am_istore_n (i := 1) (L' := [some (vr 9), some (vi r1)]) X rfl (Nat.le_of_ble_eq_true rfl) (by rfl) dX3_adoptTape_4 ?_
  refine am_aload_n (x := 9) X (by rfl) dX3_adoptTape_5 ?_
  refine am_ic X (by decide) dX3_adoptTape_6 ?_
  refine am_puti X 9 fl_X3_30 rfl rfl sh_9 (by decide) dX3_adoptTape_7 ?_
  have hrb : -1 ≤ r1 ∧ r1 ≤ 120 := by rcases hq1.2 with ⟨z1, z2, -⟩ | ⟨z, -⟩ <;> omega
  refine am_iload_n (x := r1) X (by rfl) dX3_adoptTape_10 ?_
  refine am_if_lt (tgt := 19) X dX3_adoptTape_11 (by decide) (fun h11 => ?_) (fun h11 => ?_)
  · skip
    obtain ⟨rc, z2, z3, z4, z5⟩ : ∃ rc, lx_cmp (σ 10) (σ 9 6).toNat = some rc ∧ σ1 9 8 = (rc.length : Int) ∧ rc = rcl σ1 12 rc.length ∧ rc.length ≤ 121 := by
      rcases hq1.2 with ⟨z, -⟩ | ⟨-, z⟩
      · exact absurd z (by omega)
      · exact z
    refine am_aload_n (x := 9) X (by rfl) dX3_adoptTape_19 ?_
    refine am_getr (c1 := 12) X 9 fl_X3_18 (by decide) sh_9 (by decide) (by rfl) dX3_adoptTape_20 ?_
    refine am_ic X (by decide) dX3_adoptTape_23 ?_
    refine am_aload_n (x := 9) X (by rfl) dX3_adoptTape_24 ?_
    refine am_getr (c1 := 11) X 9 fl_X3_15 (by decide) sh_9 (by decide) (by rfl) dX3_adoptTape_25 ?_
    refine am_ic X (by decide) dX3_adoptTape_28 ?_
    refine am_aload_n (x := 9) X (by rfl) dX3_adoptTape_29 ?_
    refine am_get (v := (σ1 9 8)) X 9 fl_X3_41 (by decide) sh_9 (by decide) (by simp [am_cp, am_up]) dX3_adoptTape_30 ?_
    refine am_copyi X hY 12 11 lk_X3_44 (by decide) sh_12 sh_11 (by omega) (by omega) (by omega) (by omega) (by omega) (Nat.le_of_ble_eq_true rfl) dX3_adoptTape_33 ?_
    refine am_aload_n (x := 9) X (by rfl) dX3_adoptTape_36 ?_
    refine am_aload_n (x := 9) X (by rfl) dX3_adoptTape_37 ?_
    refine am_get (v := (σ1 9 8)) X 9 fl_X3_41 (by decide) sh_9 (by decide) (by simp [am_cp, am_up]) dX3_adoptTape_38 ?_
    refine am_puti X 9 fl_X3_34 rfl rfl sh_9 (by decide) dX3_adoptTape_41 ?_
    refine am_ic X (by decide) dX3_adoptTape_44 ?_
    exact hret _ _ _ _ _ dX3_adoptTape_45 rfl rfl (by refine ⟨rfl, ⟨fun c k h1 h2 h3 h4 => by rw [am_up_k (by omega)]; unfold am_cp; rw [if_neg (by omega), am_up_k (by omega)]; exact hq1.1 c k h3 h4 (Or.inl h1), by rw [am_up_k (by omega)]; unfold am_cp; rw [if_neg (by omega)]; exact am_up_eq⟩, Or.inr ⟨rfl, rc, z2, by rw [am_up_eq]; exact z3, ?_, z5⟩⟩; rw [rcl_up (by omega)]; refine z4.trans (rcl_congr _ (fun k hk => ?_)); unfold am_cp; rw [if_pos (by omega), am_up_k (by omega)]; congr 1; omega)
  · skip
    refine am_bipush X (by decide) dX3_adoptTape_14 ?_
    refine am_iload_n (x := r1) X (by rfl) dX3_adoptTape_16 ?_
    refine am_sub (v := (-100 - r1)) X (by first | rfl | omega) (by omega) dX3_adoptTape_17 ?_
    exact hret _ _ _ _ _ dX3_adoptTape_18 rfl rfl (by refine ⟨rfl, ⟨fun c k h1 h2 h3 h4 => by rw [am_up_k (by omega)]; exact hq1.1 c k h3 h4 (Or.inl h1), am_up_eq⟩, Or.inl ⟨r1.toNat, by omega, ?_, ?_, ?_⟩⟩; rcases hq1.2 with ⟨z1, z2, z3⟩ | ⟨z1, -⟩; exact z3; omega; rw [am_up_k (by omega)]; exact hq1.1 9 7 (by decide) (by decide) (Or.inr (by decide)); intro k; rw [am_up_k (by omega)]; exact hq1.1 11 k (by decide) (by decide) (Or.inl (by decide)))

set_option maxHeartbeats 4000000 in
set_option maxRecDepth 100000 in
theorem m_X3_isGiven (σ : am_H) : am_Mi yX3_isGiven cX3_isGiven 1 (some .boolean) 0 0 0 [vr 9] SH σ (fun r sh' σ' => SH = sh' ∧ σ = σ' ∧ am_b r (0 < σ 9 7)) := by
  refine am_Mz_of (by decide +kernel) (Nat.le_of_ble_eq_true rfl) (fun K X hY hI hret => ?_)
  show am_G K 0 [some (vr 9)] [] SH σ
  refine am_aload_n (x := 9) X (by rfl) dX3_isGiven_0 ?_
  refine am_get (v := σ 9 7) X 9 fl_X3_34 (by decide) sh_9 (by decide) (rfl) dX3_isGiven_1 ?_
  refine am_if_le (tgt := 11) X dX3_isGiven_4 (by decide) (fun h4 => ?_) (fun h4 => ?_)
  · skip
    refine am_ic X (by decide) dX3_isGiven_11 ?_
    exact hret _ _ _ _ _ dX3_isGiven_12 rfl rfl (by first | exact ⟨rfl, rfl, am_bt (by omega)⟩ | exact ⟨rfl, rfl, am_bf (by omega)⟩) (by first | exact Or.inl rfl | exact Or.inr rfl | omega)
  · skip
    refine am_ic X (by decide) dX3_isGiven_7 ?_
    refine am_goto (tgt := 12) X dX3_isGiven_8 (by decide) ?_
    exact hret _ _ _ _ _ dX3_isGiven_12 rfl rfl (by first | exact ⟨rfl, rfl, am_bt (by omega)⟩ | exact ⟨rfl, rfl, am_bf (by omega)⟩) (by first | exact Or.inl rfl | exact Or.inr rfl | omega)

set_option maxHeartbeats 4000000 in
set_option maxRecDepth 100000 in
theorem m_X3_value (d l sk p q v : Int) (hd0 : 0 ≤ d) (σ : am_H) (rc : List Int) (hrl : σ 9 7 = (rc.length : Int) ∧ rc = rcl σ 11 rc.length ∧ rc.length ≤ 121) (hhd : rc.headD 0 = 20059 ∨ rc.length = 0) (hv : lx_ex (lx_N d l sk p q) rc.reverse [] 0 = some v) : am_Mi yX3_value cX3_value 10 (some .int) 1 0 0 [vr 9, vi d, vi l, vi sk, vi p, vi q] SH σ (fun r sh' σ' => SH = sh' ∧ (∀ c k : Nat, c ≠ 14 → c ≠ 15 → σ' c k = σ c k) ∧ r = v) := by
  refine am_Mi_of (by decide +kernel) (Nat.le_of_ble_eq_true rfl) (fun K X hY hI hret => ?_)
  show am_G K 0 [some (vr 9), some (vi d), some (vi l), some (vi sk), some (vi p), some (vi q), none, none, none, none] [] SH σ
  refine am_aload_n (x := 9) X (by rfl) dX3_value_0 ?_
  refine am_getr (c1 := 15) X 9 fl_X3_27 (by decide) sh_9 (by decide) (by rfl) dX3_value_1 ?_
  refine am_ic X (by decide) dX3_value_4 ?_
  refine am_iload_n (x := d) X (by rfl) dX3_value_5 ?_
  refine am_ast X 15 0 sh_15 (by omega) (by omega) dX3_value_6 ?_
  refine am_aload_n (x := 9) X (by rfl) dX3_value_7 ?_
  refine am_getr (c1 := 15) X 9 fl_X3_27 (by decide) sh_9 (by decide) (by rfl) dX3_value_8 ?_
  refine am_ic X (by decide) dX3_value_11 ?_
  refine am_iload_n (x := d) X (by rfl) dX3_value_12 ?_
  refine am_ic X (by decide) dX3_value_13 ?_
  refine am_div (v := (d / 4)) X (by omega) (by omega) rfl dX3_value_14 ?_
  refine am_ast X 15 1 sh_15 (by omega) (by omega) dX3_value_15 ?_
  refine am_aload_n (x := 9) X (by rfl) dX3_value_16 ?_
  refine am_getr (c1 := 15) X 9 fl_X3_27 (by decide) sh_9 (by decide) (by rfl) dX3_value_17 ?_
  refine am_ic X (by decide) dX3_value_20 ?_
  refine am_iload_n (x := l) X (by rfl) dX3_value_21 ?_
  refine am_ast X 15 2 sh_15 (by omega) (by omega) dX3_value_22 ?_
  refine am_aload_n (x := 9) X (by rfl) dX3_value_23 ?_
  refine am_getr (c1 := 15) X 9 fl_X3_27 (by decide) sh_9 (by decide) (by rfl) dX3_value_24 ?_
  refine am_ic X (by decide) dX3_value_27 ?_
  refine am_iload_n (x := sk) X (by rfl) dX3_value_28 ?_
  refine am_ast X 15 3 sh_15 (by omega) (by omega) dX3_value_29 ?_
  refine am_aload_n (x := 9) X (by rfl) dX3_value_30 ?_
  refine am_getr (c1 := 15) X 9 fl_X3_27 (by decide) sh_9 (by decide) (by rfl) dX3_value_31 ?_
  refine am_ic X (by decide) dX3_value_34 ?_
  refine am_iload (x := p) X (by rfl) dX3_value_35 ?_
  refine am_ast X 15 4 sh_15 (by omega) (by omega) dX3_value_37 ?_
  refine am_aload_n (x := 9) X (by rfl) dX3_value_38 ?_
  refine am_getr (c1 := 15) X 9 fl_X3_27 (by decide) sh_9 (by decide) (by rfl) dX3_value_39 ?_
  refine am_ic X (by decide) dX3_value_42 ?_
  refine am_iload (x := q) X (by rfl) dX3_value_43 ?_
  refine am_ast X 15 5 sh_15 (by omega) (by omega) dX3_value_45 ?_
  refine am_ic X (by decide) dX3_value_46 ?_
  refine am_istore (i := 6) (L' := [some (vr 9), some (vi d), some (vi l), some (vi sk), some (vi p), some (vi q), some (vi 0), none, none, none]) X (Nat.le_of_ble_eq_true rfl) (by rfl) dX3_value_47 ?_
  refine am_ic X (by decide) dX3_value_49 ?_
  refine am_istore (i := 7) (L' := [some (vr 9), some (vi d), some (vi l), some (vi sk), some (vi p), some (vi q), some (vi 0), some (vi 0), none, none]) X (Nat.le_of_ble_eq_true rfl) (by rfl) dX3_value_50 ?_
  refine am_ic X (by decide) dX3_value_52 ?_
  refine am_istore (i := 8) (L' := [some (vr 9), some (vi d), some (vi l), some (vi sk), some (vi p), some (vi q), some (vi 0), some (vi 0), some (vi 0), none]) X (Nat.le_of_ble_eq_true rfl) (by rfl) dX3_value_53 ?_
  have hL55 : ∀ (m55 : Nat) (a : Nat) (τ : am_H) (s : List Int) (tp : Int) (pa : Int) (ha : a ≤ rc.length) (hpa : pa = 0 ∨ pa = 1) (hst : s = rcl τ 14 s.length) (htp : tp = (s.length : Int)) (hsl : s.length ≤ a) (hN : ∀ k : Nat, k < 6 → τ 15 k = lx_N d l sk p q k) (hfr : ∀ c k : Nat, c ≠ 14 → c ≠ 15 → τ c k = σ c k) (hex : lx_ex (lx_N d l sk p q) (rc.reverse.drop a) s pa = some v) (hm55 : rc.length - a = m55), am_G K 55 [some (vr 9), some (vi d), some (vi l), some (vi sk), some (vi p), some (vi q), some (vi tp), some (vi pa), some (vi (a : Int)), none] [] SH τ := by
    intro m55
    induction m55 using Nat.strongRecOn with
    | ind m55 ih55 =>
    intro a τ s tp pa ha hpa hst htp hsl hN hfr hex hm55
    have ht7 : τ 9 7 = σ 9 7 := hfr 9 7 (by decide) (by decide)
    have ht11 : τ 11 a = σ 11 a := hfr 11 a (by decide) (by decide)
    refine am_use (fun _ hokh _ _ => ?_)
    have hr11 := (hokh 11 _ sh_11 a).2 (by decide)
    unfold R32 at hr11
    refine am_iload (x := (a : Int)) X (by rfl) dX3_value_55 ?_
    refine am_aload_n (x := 9) X (by rfl) dX3_value_57 ?_
    refine am_get (v := τ 9 7) X 9 fl_X3_34 (by decide) sh_9 (by decide) (rfl) dX3_value_58 ?_
    refine am_icmp_ge (tgt := 296) X dX3_value_61 (by decide) (fun h61 => ?_) (fun h61 => ?_)
    · skip
      refine am_ic X (by decide) dX3_value_296 ?_
      exact hret _ _ _ _ _ dX3_value_297 rfl rfl (⟨rfl, hfr, by have hd0 : rc.reverse.drop a = [] := List.drop_eq_nil_of_le (by rw [List.length_reverse]; omega); rw [hd0] at hex; exact Option.some.inj hex⟩)
    · skip
      have hcons := lx_drop hrl.2.1 (show a < rc.length by omega)
      rw [← ht11] at hcons
      rw [hcons] at hex
      have hlast := lx_last (a := a) hrl.2.1 hhd
      rw [← ht11] at hlast
      refine am_aload_n (x := 9) X (by rfl) dX3_value_64 ?_
      refine am_getr (c1 := 11) X 9 fl_X3_15 (by decide) sh_9 (by decide) (by rfl) dX3_value_65 ?_
      refine am_iload (x := (a : Int)) X (by rfl) dX3_value_68 ?_
      refine am_ald (v := τ 11 a) X 11 a sh_11 (by omega) (by omega) (rfl) dX3_value_70 ?_
      refine am_istore (i := 9) (L' := [some (vr 9), some (vi d), some (vi l), some (vi sk), some (vi p), some (vi q), some (vi tp), some (vi pa), some (vi (a : Int)), some (vi (τ 11 a))]) X (Nat.le_of_ble_eq_true rfl) (by rfl) dX3_value_71 ?_
      refine am_iload (x := pa) X (by rfl) dX3_value_73 ?_
      refine am_if_eq (tgt := 96) X dX3_value_75 (by decide) (fun h75 => ?_) (fun h75 => ?_)
      · skip
        refine am_iload (x := τ 11 a) X (by rfl) dX3_value_96 ?_
        refine am_sipush X (by decide) dX3_value_98 ?_
        refine am_icmp_ge (tgt := 141) X dX3_value_101 (by decide) (fun h101 => ?_) (fun h101 => ?_)
        · skip
          have hp0 : pa = 0 := by omega
          rw [hp0] at hex
          have htop := lx_ex_top (by omega) hex
          refine am_iload (x := tp) X (by rfl) dX3_value_141 ?_
          refine am_iload (x := τ 11 a) X (by rfl) dX3_value_143 ?_
          refine am_sipush X (by decide) dX3_value_145 ?_
          refine am_sub (v := (τ 11 a - 20000)) X (by first | rfl | omega) (by omega) dX3_value_148 ?_
          refine am_callSi X hY lk_X3_107 mf_X3_rankOf (m_X3_rankOf (τ 11 a - 20000) _ τ) (by decide) (by decide) (Nat.le_refl _) (Nat.le_refl _) rfl rfl (Nat.le_of_ble_eq_true rfl) dX3_value_149 (fun r149 sh149 σ149 hr149 hp149 => ?_)
          obtain ⟨rfl, rfl, hq149⟩ := hp149
          refine am_callSi X hY lk_X3_114 mf_X3_operandsOf (m_X3_operandsOf r149 _ τ) (by decide) (by decide) (Nat.le_refl _) (Nat.le_refl _) rfl rfl (Nat.le_of_ble_eq_true rfl) dX3_value_152 (fun r152 sh152 σ152 hr152 hp152 => ?_)
          obtain ⟨rfl, rfl, hq152⟩ := hp152
          refine am_icmp_ge (tgt := 160) X dX3_value_155 (by decide) (fun h155 => ?_) (fun h155 => ?_)
          · skip
            refine am_iload (x := τ 11 a) X (by rfl) dX3_value_160 ?_
            refine am_sipush X (by decide) dX3_value_162 ?_
            refine am_icmp_ne (tgt := 178) X dX3_value_165 (by decide) (fun h165 => ?_) (fun h165 => ?_)
            · skip
              refine am_iload (x := τ 11 a) X (by rfl) dX3_value_178 ?_
              refine am_sipush X (by decide) dX3_value_180 ?_
              refine am_icmp_ne (tgt := 209) X dX3_value_183 (by decide) (fun h183 => ?_) (fun h183 => ?_)
              · skip
                refine am_iload (x := τ 11 a) X (by rfl) dX3_value_209 ?_
                refine am_sipush X (by decide) dX3_value_211 ?_
                refine am_sub (v := (τ 11 a - 20000)) X (by first | rfl | omega) (by omega) dX3_value_214 ?_
                refine am_callSi X hY lk_X3_107 mf_X3_rankOf (m_X3_rankOf (τ 11 a - 20000) _ τ) (by decide) (by decide) (Nat.le_refl _) (Nat.le_refl _) rfl rfl (Nat.le_of_ble_eq_true rfl) dX3_value_215 (fun r215 sh215 σ215 hr215 hp215 => ?_)
                obtain ⟨rfl, rfl, hq215⟩ := hp215
                refine am_bipush X (by decide) dX3_value_218 ?_
                refine am_icmp_ne (tgt := 253) X dX3_value_220 (by decide) (fun h220 => ?_) (fun h220 => ?_)
                · skip
                  obtain ⟨y, x, s', hs', hex2⟩ := lx_ex_2 (by omega) (by omega) hex
                  have hpop := lx_st_pop hst hs'
                  have hpop2 := lx_st_pop hpop.2.1 rfl
                  have hln : (x :: s').length = s'.length + 1 := rfl
                  have hix : τ 14 ((tp - 1)).toNat = τ 14 (x :: s').length := by rw [show ((tp - 1)).toNat = (x :: s').length by omega]
                  have hix2 : τ 14 (((tp - 1) - 1)).toNat = τ 14 s'.length := by rw [show (((tp - 1) - 1)).toNat = s'.length by omega]
                  refine am_inc (x := tp) (v := (tp - 1)) (L' := [some (vr 9), some (vi d), some (vi l), some (vi sk), some (vi p), some (vi q), some (vi (tp - 1)), some (vi pa), some (vi (a : Int)), some (vi (τ 11 a))]) X (by rfl) (by omega) (by omega) (by rfl) dX3_value_253 ?_
                  refine am_aload_n (x := 9) X (by rfl) dX3_value_256 ?_
                  refine am_getr (c1 := 14) X 9 fl_X3_24 (by decide) sh_9 (by decide) (by rfl) dX3_value_257 ?_
                  refine am_iload (x := (tp - 1)) X (by rfl) dX3_value_260 ?_
                  refine am_ic X (by decide) dX3_value_262 ?_
                  refine am_sub (v := ((tp - 1) - 1)) X (by first | rfl | omega) (by omega) dX3_value_263 ?_
                  refine am_iload (x := τ 11 a) X (by rfl) dX3_value_264 ?_
                  refine am_sipush X (by decide) dX3_value_266 ?_
                  refine am_sub (v := (τ 11 a - 20000)) X (by first | rfl | omega) (by omega) dX3_value_269 ?_
                  refine am_aload_n (x := 9) X (by rfl) dX3_value_270 ?_
                  refine am_getr (c1 := 14) X 9 fl_X3_24 (by decide) sh_9 (by decide) (by rfl) dX3_value_271 ?_
                  refine am_iload (x := (tp - 1)) X (by rfl) dX3_value_274 ?_
                  refine am_ic X (by decide) dX3_value_276 ?_
                  refine am_sub (v := ((tp - 1) - 1)) X (by first | rfl | omega) (by omega) dX3_value_277 ?_
                  refine am_ald (v := τ 14 ((((tp - 1) - 1)).toNat)) X 14 ((((tp - 1) - 1)).toNat) sh_14 (by omega) (by omega) (rfl) dX3_value_278 ?_
                  refine am_aload_n (x := 9) X (by rfl) dX3_value_279 ?_
                  refine am_getr (c1 := 14) X 9 fl_X3_24 (by decide) sh_9 (by decide) (by rfl) dX3_value_280 ?_
                  refine am_iload (x := (tp - 1)) X (by rfl) dX3_value_283 ?_
                  refine am_ald (v := τ 14 (((tp - 1)).toNat)) X 14 (((tp - 1)).toNat) sh_14 (by omega) (by omega) (rfl) dX3_value_285 ?_
                  refine am_callSi X hY lk_X3_121 mf_X3_ofTwo (m_X3_ofTwo (τ 11 a - 20000) (τ 14 ((((tp - 1) - 1)).toNat)) (τ 14 (((tp - 1)).toNat)) _ τ) (by decide) (by decide) (Nat.le_refl _) (Nat.le_refl _) rfl rfl (Nat.le_of_ble_eq_true rfl) dX3_value_286 (fun r286 sh286 σ286 hr286 hp286 => ?_)
                  obtain ⟨rfl, rfl, hq286⟩ := hp286
                  refine am_ast X 14 ((((tp - 1) - 1)).toNat) sh_14 (by omega) (by omega) dX3_value_289 ?_
                  refine am_inc (x := (a : Int)) (v := ((a : Int) + 1)) (L' := [some (vr 9), some (vi d), some (vi l), some (vi sk), some (vi p), some (vi q), some (vi (tp - 1)), some (vi pa), some (vi ((a : Int) + 1)), some (vi (τ 11 a))]) X (by rfl) (by omega) (by omega) (by rfl) dX3_value_290 ?_
                  refine am_goto (tgt := 55) X dX3_value_293 (by decide) ?_
                  refine am_fg [true, true, true, true, true, true, true, true, true, false] rfl (L' := [some (vr 9), some (vi d), some (vi l), some (vi sk), some (vi p), some (vi q), some (vi (tp - 1)), some (vi pa), some (vi ((a : Int) + 1)), none]) rfl ?_
                  exact ih55 _ (by omega) (a + 1) (am_up τ 14 ((((tp - 1) - 1)).toNat) r286) (r286 :: s') (tp - 1) pa (by omega) (hpa) (lx_st_push hpop2.2.1 (by omega)) (by show tp - 1 = ((s'.length + 1 : Nat) : Int); omega) (by show s'.length + 1 ≤ a + 1; omega) (fun k hk => by rw [am_up_k (by omega)]; exact hN k hk) (fun c k h1 h2 => by rw [am_up_k (by omega)]; exact hfr c k h1 h2) (by have hp0 : pa = 0 := (by omega); rw [hp0, hq286, hix, hix2, hpop.1, hpop2.1]; exact hex2) rfl
                · skip
                  obtain ⟨x, s', hs', hex2⟩ := lx_ex_1 (by omega) (by omega) hex
                  have hpop := lx_st_pop hst hs'
                  have hix : τ 14 ((tp - 1)).toNat = τ 14 s'.length := by rw [show ((tp - 1)).toNat = s'.length by omega]
                  refine am_aload_n (x := 9) X (by rfl) dX3_value_223 ?_
                  refine am_getr (c1 := 14) X 9 fl_X3_24 (by decide) sh_9 (by decide) (by rfl) dX3_value_224 ?_
                  refine am_iload (x := tp) X (by rfl) dX3_value_227 ?_
                  refine am_ic X (by decide) dX3_value_229 ?_
                  refine am_sub (v := (tp - 1)) X (by first | rfl | omega) (by omega) dX3_value_230 ?_
                  refine am_iload (x := τ 11 a) X (by rfl) dX3_value_231 ?_
                  refine am_sipush X (by decide) dX3_value_233 ?_
                  refine am_sub (v := (τ 11 a - 20000)) X (by first | rfl | omega) (by omega) dX3_value_236 ?_
                  refine am_aload_n (x := 9) X (by rfl) dX3_value_237 ?_
                  refine am_getr (c1 := 14) X 9 fl_X3_24 (by decide) sh_9 (by decide) (by rfl) dX3_value_238 ?_
                  refine am_iload (x := tp) X (by rfl) dX3_value_241 ?_
                  refine am_ic X (by decide) dX3_value_243 ?_
                  refine am_sub (v := (tp - 1)) X (by first | rfl | omega) (by omega) dX3_value_244 ?_
                  refine am_ald (v := τ 14 (((tp - 1)).toNat)) X 14 (((tp - 1)).toNat) sh_14 (by omega) (by omega) (rfl) dX3_value_245 ?_
                  refine am_callSi X hY lk_X3_117 mf_X3_ofOne (m_X3_ofOne (τ 11 a - 20000) (τ 14 (((tp - 1)).toNat)) _ τ) (by decide) (by decide) (Nat.le_refl _) (Nat.le_refl _) rfl rfl (Nat.le_of_ble_eq_true rfl) dX3_value_246 (fun r246 sh246 σ246 hr246 hp246 => ?_)
                  obtain ⟨rfl, rfl, hq246⟩ := hp246
                  refine am_ast X 14 (((tp - 1)).toNat) sh_14 (by omega) (by omega) dX3_value_249 ?_
                  refine am_goto (tgt := 290) X dX3_value_250 (by decide) ?_
                  refine am_inc (x := (a : Int)) (v := ((a : Int) + 1)) (L' := [some (vr 9), some (vi d), some (vi l), some (vi sk), some (vi p), some (vi q), some (vi tp), some (vi pa), some (vi ((a : Int) + 1)), some (vi (τ 11 a))]) X (by rfl) (by omega) (by omega) (by rfl) dX3_value_290 ?_
                  refine am_goto (tgt := 55) X dX3_value_293 (by decide) ?_
                  refine am_fg [true, true, true, true, true, true, true, true, true, false] rfl (L' := [some (vr 9), some (vi d), some (vi l), some (vi sk), some (vi p), some (vi q), some (vi tp), some (vi pa), some (vi ((a : Int) + 1)), none]) rfl ?_
                  exact ih55 _ (by omega) (a + 1) (am_up τ 14 (((tp - 1)).toNat) r246) (r246 :: s') tp pa (by omega) (hpa) (lx_st_push hpop.2.1 (by omega)) (by show tp = ((s'.length + 1 : Nat) : Int); omega) (by show s'.length + 1 ≤ a + 1; omega) (fun k hk => by rw [am_up_k (by omega)]; exact hN k hk) (fun c k h1 h2 => by rw [am_up_k (by omega)]; exact hfr c k h1 h2) (by have hp0 : pa = 0 := (by omega); rw [hp0, hq246, hix, hpop.1]; exact hex2) rfl
              · skip
                obtain ⟨x, s', hs', hex2⟩ := lx_ex_q (by omega) hex
                have hpop := lx_st_pop hst hs'
                have hix : τ 14 ((tp - 1)).toNat = τ 14 s'.length := by rw [show ((tp - 1)).toNat = s'.length by omega]
                refine am_inc (x := tp) (v := (tp - 1)) (L' := [some (vr 9), some (vi d), some (vi l), some (vi sk), some (vi p), some (vi q), some (vi (tp - 1)), some (vi pa), some (vi (a : Int)), some (vi (τ 11 a))]) X (by rfl) (by omega) (by omega) (by rfl) dX3_value_186 ?_
                refine am_aload_n (x := 9) X (by rfl) dX3_value_189 ?_
                refine am_getr (c1 := 14) X 9 fl_X3_24 (by decide) sh_9 (by decide) (by rfl) dX3_value_190 ?_
                refine am_iload (x := (tp - 1)) X (by rfl) dX3_value_193 ?_
                refine am_ald (v := τ 14 (((tp - 1)).toNat)) X 14 (((tp - 1)).toNat) sh_14 (by omega) (by omega) (rfl) dX3_value_195 ?_
                refine am_if_ne (tgt := 203) X dX3_value_196 (by decide) (fun h196 => ?_) (fun h196 => ?_)
                · skip
                  refine am_ic X (by decide) dX3_value_203 ?_
                  refine am_istore (i := 7) (L' := [some (vr 9), some (vi d), some (vi l), some (vi sk), some (vi p), some (vi q), some (vi (tp - 1)), some (vi 0), some (vi (a : Int)), some (vi (τ 11 a))]) X (Nat.le_of_ble_eq_true rfl) (by rfl) dX3_value_204 ?_
                  refine am_goto (tgt := 290) X dX3_value_206 (by decide) ?_
                  refine am_inc (x := (a : Int)) (v := ((a : Int) + 1)) (L' := [some (vr 9), some (vi d), some (vi l), some (vi sk), some (vi p), some (vi q), some (vi (tp - 1)), some (vi 0), some (vi ((a : Int) + 1)), some (vi (τ 11 a))]) X (by rfl) (by omega) (by omega) (by rfl) dX3_value_290 ?_
                  refine am_goto (tgt := 55) X dX3_value_293 (by decide) ?_
                  refine am_fg [true, true, true, true, true, true, true, true, true, false] rfl (L' := [some (vr 9), some (vi d), some (vi l), some (vi sk), some (vi p), some (vi q), some (vi (tp - 1)), some (vi 0), some (vi ((a : Int) + 1)), none]) rfl ?_
                  exact ih55 _ (by omega) (a + 1) τ (s') (tp - 1) 0 (by omega) (by omega) (hpop.2.1) (by omega) (by omega) (hN) (hfr) (by rw [if_neg (by rw [← hpop.1, ← hix]; omega)] at hex2; exact hex2) rfl
                · skip
                  refine am_ic X (by decide) dX3_value_199 ?_
                  refine am_goto (tgt := 204) X dX3_value_200 (by decide) ?_
                  refine am_istore (i := 7) (L' := [some (vr 9), some (vi d), some (vi l), some (vi sk), some (vi p), some (vi q), some (vi (tp - 1)), some (vi 1), some (vi (a : Int)), some (vi (τ 11 a))]) X (Nat.le_of_ble_eq_true rfl) (by rfl) dX3_value_204 ?_
                  refine am_goto (tgt := 290) X dX3_value_206 (by decide) ?_
                  refine am_inc (x := (a : Int)) (v := ((a : Int) + 1)) (L' := [some (vr 9), some (vi d), some (vi l), some (vi sk), some (vi p), some (vi q), some (vi (tp - 1)), some (vi 1), some (vi ((a : Int) + 1)), some (vi (τ 11 a))]) X (by rfl) (by omega) (by omega) (by rfl) dX3_value_290 ?_
                  refine am_goto (tgt := 55) X dX3_value_293 (by decide) ?_
                  refine am_fg [true, true, true, true, true, true, true, true, true, false] rfl (L' := [some (vr 9), some (vi d), some (vi l), some (vi sk), some (vi p), some (vi q), some (vi (tp - 1)), some (vi 1), some (vi ((a : Int) + 1)), none]) rfl ?_
                  exact ih55 _ (by omega) (a + 1) τ (s') (tp - 1) 1 (by omega) (by omega) (hpop.2.1) (by omega) (by omega) (hN) (hfr) (by rw [if_pos (by rw [← hpop.1, ← hix]; omega)] at hex2; exact hex2) rfl
            · skip
              obtain ⟨s', hs'⟩ := lx_ex_e (by omega) hex
              have hpop := lx_st_pop hst hs'
              have hix : τ 14 ((tp - 1)).toNat = τ 14 s'.length := by rw [show ((tp - 1)).toNat = s'.length by omega]
              refine am_aload_n (x := 9) X (by rfl) dX3_value_168 ?_
              refine am_getr (c1 := 14) X 9 fl_X3_24 (by decide) sh_9 (by decide) (by rfl) dX3_value_169 ?_
              refine am_iload (x := tp) X (by rfl) dX3_value_172 ?_
              refine am_ic X (by decide) dX3_value_174 ?_
              refine am_sub (v := (tp - 1)) X (by first | rfl | omega) (by omega) dX3_value_175 ?_
              refine am_ald (v := τ 14 (((tp - 1)).toNat)) X 14 (((tp - 1)).toNat) sh_14 (by omega) (by omega) (rfl) dX3_value_176 ?_
              exact hret _ _ _ _ _ dX3_value_177 rfl rfl (⟨rfl, hfr, by rw [hix]; exact hpop.1⟩)
          · skip
            (exfalso; rw [hq149] at hq152; omega)
        · skip
          refine am_aload_n (x := 9) X (by rfl) dX3_value_104 ?_
          refine am_getr (c1 := 14) X 9 fl_X3_24 (by decide) sh_9 (by decide) (by rfl) dX3_value_105 ?_
          refine am_iload (x := tp) X (by rfl) dX3_value_108 ?_
          refine am_iload (x := τ 11 a) X (by rfl) dX3_value_110 ?_
          refine am_sipush X (by decide) dX3_value_112 ?_
          refine am_icmp_ge (tgt := 123) X dX3_value_115 (by decide) (fun h115 => ?_) (fun h115 => ?_)
          · skip
            have hp0 : pa = 0 := by omega
            rw [hp0] at hex
            have hm := lx_ex_m (by omega) hex
            refine am_aload_n (x := 9) X (by rfl) dX3_value_123 ?_
            refine am_getr (c1 := 15) X 9 fl_X3_27 (by decide) sh_9 (by decide) (by rfl) dX3_value_124 ?_
            refine am_iload (x := τ 11 a) X (by rfl) dX3_value_127 ?_
            refine am_sipush X (by decide) dX3_value_129 ?_
            refine am_sub (v := (τ 11 a - 10000)) X (by first | rfl | omega) (by omega) dX3_value_132 ?_
            refine am_ald (v := τ 15 (((τ 11 a - 10000)).toNat)) X 15 (((τ 11 a - 10000)).toNat) sh_15 (by omega) (by omega) (rfl) dX3_value_133 ?_
            refine am_ast X 14 ((tp).toNat) sh_14 (by omega) (by omega) dX3_value_134 ?_
            refine am_inc (x := tp) (v := (tp + 1)) (L' := [some (vr 9), some (vi d), some (vi l), some (vi sk), some (vi p), some (vi q), some (vi (tp + 1)), some (vi pa), some (vi (a : Int)), some (vi (τ 11 a))]) X (by rfl) (by omega) (by omega) (by rfl) dX3_value_135 ?_
            refine am_goto (tgt := 290) X dX3_value_138 (by decide) ?_
            refine am_inc (x := (a : Int)) (v := ((a : Int) + 1)) (L' := [some (vr 9), some (vi d), some (vi l), some (vi sk), some (vi p), some (vi q), some (vi (tp + 1)), some (vi pa), some (vi ((a : Int) + 1)), some (vi (τ 11 a))]) X (by rfl) (by omega) (by omega) (by rfl) dX3_value_290 ?_
            refine am_goto (tgt := 55) X dX3_value_293 (by decide) ?_
            refine am_fg [true, true, true, true, true, true, true, true, true, false] rfl (L' := [some (vr 9), some (vi d), some (vi l), some (vi sk), some (vi p), some (vi q), some (vi (tp + 1)), some (vi pa), some (vi ((a : Int) + 1)), none]) rfl ?_
            exact ih55 _ (by omega) (a + 1) (am_up τ 14 ((tp).toNat) (τ 15 (((τ 11 a - 10000)).toNat))) (lx_N d l sk p q (τ 11 a - 10000).toNat :: s) (tp + 1) pa (by omega) (hpa) (by rw [← hN _ (by omega)]; exact lx_st_push hst (by omega)) (by show tp + 1 = ((s.length + 1 : Nat) : Int); omega) (by show s.length + 1 ≤ a + 1; omega) (fun k hk => by rw [am_up_k (by omega)]; exact hN k hk) (fun c k h1 h2 => by rw [am_up_k (by omega)]; exact hfr c k h1 h2) (by have hp0 : pa = 0 := (by omega); rw [hp0]; exact hm.2) rfl
          · skip
            refine am_iload (x := τ 11 a) X (by rfl) dX3_value_118 ?_
            refine am_goto (tgt := 134) X dX3_value_120 (by decide) ?_
            refine am_ast X 14 ((tp).toNat) sh_14 (by omega) (by omega) dX3_value_134 ?_
            refine am_inc (x := tp) (v := (tp + 1)) (L' := [some (vr 9), some (vi d), some (vi l), some (vi sk), some (vi p), some (vi q), some (vi (tp + 1)), some (vi pa), some (vi (a : Int)), some (vi (τ 11 a))]) X (by rfl) (by omega) (by omega) (by rfl) dX3_value_135 ?_
            refine am_goto (tgt := 290) X dX3_value_138 (by decide) ?_
            refine am_inc (x := (a : Int)) (v := ((a : Int) + 1)) (L' := [some (vr 9), some (vi d), some (vi l), some (vi sk), some (vi p), some (vi q), some (vi (tp + 1)), some (vi pa), some (vi ((a : Int) + 1)), some (vi (τ 11 a))]) X (by rfl) (by omega) (by omega) (by rfl) dX3_value_290 ?_
            refine am_goto (tgt := 55) X dX3_value_293 (by decide) ?_
            refine am_fg [true, true, true, true, true, true, true, true, true, false] rfl (L' := [some (vr 9), some (vi d), some (vi l), some (vi sk), some (vi p), some (vi q), some (vi (tp + 1)), some (vi pa), some (vi ((a : Int) + 1)), none]) rfl ?_
            exact ih55 _ (by omega) (a + 1) (am_up τ 14 ((tp).toNat) (τ 11 a)) (τ 11 a :: s) (tp + 1) pa (by omega) (hpa) (lx_st_push hst (by omega)) (by show tp + 1 = ((s.length + 1 : Nat) : Int); omega) (by show s.length + 1 ≤ a + 1; omega) (fun k hk => by rw [am_up_k (by omega)]; exact hN k hk) (fun c k h1 h2 => by rw [am_up_k (by omega)]; exact hfr c k h1 h2) (by have hp0 : pa = 0 := (by omega); rw [hp0] at hex ⊢; exact lx_ex_n (by omega) hex) rfl
      · skip
        refine am_iload (x := τ 11 a) X (by rfl) dX3_value_78 ?_
        refine am_sipush X (by decide) dX3_value_80 ?_
        refine am_icmp_eq (tgt := 90) X dX3_value_83 (by decide) (fun h83 => ?_) (fun h83 => ?_)
        · skip
          refine am_ic X (by decide) dX3_value_90 ?_
          refine am_istore (i := 7) (L' := [some (vr 9), some (vi d), some (vi l), some (vi sk), some (vi p), some (vi q), some (vi tp), some (vi 0), some (vi (a : Int)), some (vi (τ 11 a))]) X (Nat.le_of_ble_eq_true rfl) (by rfl) dX3_value_91 ?_
          refine am_goto (tgt := 290) X dX3_value_93 (by decide) ?_
          refine am_inc (x := (a : Int)) (v := ((a : Int) + 1)) (L' := [some (vr 9), some (vi d), some (vi l), some (vi sk), some (vi p), some (vi q), some (vi tp), some (vi 0), some (vi ((a : Int) + 1)), some (vi (τ 11 a))]) X (by rfl) (by omega) (by omega) (by rfl) dX3_value_290 ?_
          refine am_goto (tgt := 55) X dX3_value_293 (by decide) ?_
          refine am_fg [true, true, true, true, true, true, true, true, true, false] rfl (L' := [some (vr 9), some (vi d), some (vi l), some (vi sk), some (vi p), some (vi q), some (vi tp), some (vi 0), some (vi ((a : Int) + 1)), none]) rfl ?_
          exact ih55 _ (by omega) (a + 1) τ s tp 0 (by omega) (by omega) (hst) (htp) (by omega) (hN) (hfr) (by have h9 := lx_ex_p (by omega) hex; rw [if_neg (by omega)] at h9; exact h9) rfl
        · skip
          refine am_ic X (by decide) dX3_value_86 ?_
          refine am_goto (tgt := 91) X dX3_value_87 (by decide) ?_
          refine am_istore (i := 7) (L' := [some (vr 9), some (vi d), some (vi l), some (vi sk), some (vi p), some (vi q), some (vi tp), some (vi 1), some (vi (a : Int)), some (vi (τ 11 a))]) X (Nat.le_of_ble_eq_true rfl) (by rfl) dX3_value_91 ?_
          refine am_goto (tgt := 290) X dX3_value_93 (by decide) ?_
          refine am_inc (x := (a : Int)) (v := ((a : Int) + 1)) (L' := [some (vr 9), some (vi d), some (vi l), some (vi sk), some (vi p), some (vi q), some (vi tp), some (vi 1), some (vi ((a : Int) + 1)), some (vi (τ 11 a))]) X (by rfl) (by omega) (by omega) (by rfl) dX3_value_290 ?_
          refine am_goto (tgt := 55) X dX3_value_293 (by decide) ?_
          refine am_fg [true, true, true, true, true, true, true, true, true, false] rfl (L' := [some (vr 9), some (vi d), some (vi l), some (vi sk), some (vi p), some (vi q), some (vi tp), some (vi 1), some (vi ((a : Int) + 1)), none]) rfl ?_
          exact ih55 _ (by omega) (a + 1) τ s tp 1 (by omega) (by omega) (hst) (htp) (by omega) (hN) (hfr) (by have h9 := lx_ex_p (by omega) hex; rw [if_pos (by omega)] at h9; exact h9) rfl
  exact hL55 _ 0 _ ([]) 0 0 (Nat.zero_le _) (Or.inl rfl) (rfl) (rfl) (Nat.le_refl _) (fun k hk => by rcases (show k = 0 ∨ k = 1 ∨ k = 2 ∨ k = 3 ∨ k = 4 ∨ k = 5 by omega) with rfl | rfl | rfl | rfl | rfl | rfl <;> simp [am_up, lx_N]) (fun c k h1 h2 => by rw [am_up_k (by omega), am_up_k (by omega), am_up_k (by omega), am_up_k (by omega), am_up_k (by omega), am_up_k (by omega)]) (hv) rfl
