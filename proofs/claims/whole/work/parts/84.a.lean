set_option maxHeartbeats 4000000 in
set_option maxRecDepth 100000 in
theorem m_X10_bitsOf (σ : am_H) (a : Int) (x : Nat) (ha : a = (x : Int)) (hx : x < 1048576) : am_Mi yX10_bitsOf cX10_bitsOf 3 (some .int) 0 0 0 [vi a] SH σ (fun r sh' σ' => SH = sh' ∧ σ = σ' ∧ r = (rg_pc 20 x : Int)) := by
  refine am_Mi_of (by decide +kernel) (Nat.le_of_ble_eq_true rfl) (fun K X hY hI hret => ?_)
  show am_G K 0 [some (vi a), none, none] [] SH σ
  refine am_ic X (by decide) dX10_bitsOf_0 ?_
  refine am_istore_n (i := 1) (L' := [some (vi a), some (vi 0), none]) X rfl (Nat.le_of_ble_eq_true rfl) (by rfl) dX10_bitsOf_1 ?_
  refine am_iload_n (x := a) X (by rfl) dX10_bitsOf_2 ?_
  refine am_istore_n (i := 2) (L' := [some (vi a), some (vi 0), some (vi a)]) X rfl (Nat.le_of_ble_eq_true rfl) (by rfl) dX10_bitsOf_3 ?_
  have hL4 : ∀ (m4 : Nat) (t : Nat) (y : Nat) (yv : Int) (hy : y < 1048576) (hyv : yv = (y : Int)) (ht : t + rg_pc 20 y = rg_pc 20 x) (hm4 : y = m4), am_G K 4 [some (vi a), some (vi (t : Int)), some (vi yv)] [] SH σ := by
    intro m4
    induction m4 using Nat.strongRecOn with
    | ind m4 ih4 =>
    intro t y yv hy hyv ht hm4
    have hple := rg_pc_le 20 x
    refine am_iload_n (x := yv) X (by rfl) dX10_bitsOf_4 ?_
    refine am_if_eq (tgt := 20) X dX10_bitsOf_5 (by decide) (fun h5 => ?_) (fun h5 => ?_)
    · skip
      refine am_iload_n (x := (t : Int)) X (by rfl) dX10_bitsOf_20 ?_
      exact hret _ _ _ _ _ dX10_bitsOf_21 rfl rfl (⟨rfl, rfl, by have hy0 : y = 0 := (by omega); rw [hy0, rg_pc_0] at ht; omega⟩)
    · skip
      have hlow := rg_pc_low 20 y (by omega) hy
      have hdec : y &&& (y - 1) ≤ y - 1 := Nat.and_le_right
      refine am_inc (x := (t : Int)) (v := ((t : Int) + 1)) (L' := [some (vi a), some (vi ((t : Int) + 1)), some (vi yv)]) X (by rfl) (by omega) (by omega) (by rfl) dX10_bitsOf_8 ?_
      refine am_iload_n (x := yv) X (by rfl) dX10_bitsOf_11 ?_
      refine am_iload_n (x := yv) X (by rfl) dX10_bitsOf_12 ?_
      refine am_ic X (by decide) dX10_bitsOf_13 ?_
      refine am_sub (v := (yv - 1)) X (by first | rfl | omega) (by omega) dX10_bitsOf_14 ?_
      refine am_iand X dX10_bitsOf_15 ?_
      refine am_istore_n (i := 2) (L' := [some (vi a), some (vi ((t : Int) + 1)), some (vi (am_and yv (yv - 1)))]) X rfl (Nat.le_of_ble_eq_true rfl) (by rfl) dX10_bitsOf_16 ?_
      refine am_goto (tgt := 4) X dX10_bitsOf_17 (by decide) ?_
      exact ih4 _ (by omega) (t + 1) (y &&& (y - 1)) (am_and yv (yv - 1)) (by omega) (by rw [hyv, show (y : Int) - 1 = ((y - 1 : Nat) : Int) by omega, rg_and y (y - 1) (by omega) (by omega)]) (by omega) rfl
  exact hL4 _ 0 x a (hx) (ha) (Nat.zero_add _) rfl

set_option maxHeartbeats 4000000 in
set_option maxRecDepth 100000 in
theorem m_X10_ringsFrom_0 (σ : am_H) (first last s v : Nat) (bits ow : Int) (hb : bits = (s : Int)) (ho : ow = (v : Int)) (hs : 0 < s ∧ s < 1048576) (hv : v < 256) (hf : (first : Int) < σ 63 7) (hl : (last : Int) < σ 63 7) (hrb : σ 63 27 < 1048576) (hp : 0 ≤ σ 63 6 ∧ σ 63 6 ≤ 8) (hc : 0 ≤ σ 63 7 ∧ σ 63 7 ≤ 20) (hdeb : MdeV σ) (hvi : MVi σ first s v) (hpc : rg_pc 20 s + 0 = 5) : am_Mv yX10_ringsFrom cX10_ringsFrom 7 none 3 0 0 [vr 63, vi (first : Int), vi (last : Int), vi bits, vi ow] SH σ (fun sh' σ' => SH = sh' ∧ md_frr σ σ' ∧ MFo σ 0 first last s v (σ 63 27) (σ' 63 27)) := by
  refine am_Mv_of (by decide +kernel) (Nat.le_of_ble_eq_true rfl) (fun K X hY hI hret => ?_)
  show am_G K 0 [some (vr 63), some (vi (first : Int)), some (vi (last : Int)), some (vi bits), some (vi ow), none, none] [] SH σ
  have hdl := hdeb last hl
  have hdf := hdeb first hf
  have hpw : m_w σ last < 8 := by unfold m_w; omega
  have hpi : σ 68 (5 * last + 1) = (m_w σ last : Int) := by unfold m_w; omega
  have hofi : σ 68 (5 * first) = (m_o σ first : Int) := by unfold m_o; omega
  obtain ⟨hv1, hv2, hv3⟩ := rg_orv ho hv hpw hpi
  refine am_aload_n (x := 63) X (by rfl) dX10_ringsFrom_0 ?_
  refine am_getr (c1 := 68) X 63 fl_X10_22 (by decide) sh_63 (by decide) (by rfl) dX10_ringsFrom_1 ?_
  refine am_ic X (by decide) dX10_ringsFrom_4 ?_
  refine am_iload_n (x := (last : Int)) X (by rfl) dX10_ringsFrom_5 ?_
  refine am_mul (v := (5 * (last : Int))) X (by first | rfl | omega) (by omega) dX10_ringsFrom_6 ?_
  refine am_ic X (by decide) dX10_ringsFrom_7 ?_
  refine am_add (v := ((5 * (last : Int)) + 1)) X (by first | rfl | omega) (by omega) dX10_ringsFrom_8 ?_
  refine am_ald (v := σ 68 ((5 * last) + 1)) X 68 ((5 * last) + 1) sh_68 (by omega) (by omega) (rfl) dX10_ringsFrom_9 ?_
  refine am_aload_n (x := 63) X (by rfl) dX10_ringsFrom_10 ?_
  refine am_getr (c1 := 68) X 63 fl_X10_22 (by decide) sh_63 (by decide) (by rfl) dX10_ringsFrom_11 ?_
  refine am_ic X (by decide) dX10_ringsFrom_14 ?_
  refine am_iload_n (x := (first : Int)) X (by rfl) dX10_ringsFrom_15 ?_
  refine am_mul (v := (5 * (first : Int))) X (by first | rfl | omega) (by omega) dX10_ringsFrom_16 ?_
  refine am_ald (v := σ 68 (5 * first)) X 68 (5 * first) sh_68 (by omega) (by omega) (rfl) dX10_ringsFrom_17 ?_
  refine am_icmp_ne (tgt := 89) X dX10_ringsFrom_18 (by decide) (fun h18 => ?_) (fun h18 => ?_)
  · skip
    refine am_iload_n (x := bits) X (by rfl) dX10_ringsFrom_89 ?_
    refine am_callSi X hY lk_X10_272 mf_X10_bitsOf (m_X10_bitsOf σ bits s hb hs.2) (by decide) (by decide) (Nat.le_refl _) (Nat.le_refl _) rfl rfl (Nat.le_of_ble_eq_true rfl) dX10_ringsFrom_90 (fun r90 sh90 σ90 hr90 hp90 => ?_)
    obtain ⟨rfl, rfl, hq90⟩ := hp90
    refine am_ic X (by decide) dX10_ringsFrom_93 ?_
    refine am_icmp_ne (tgt := 98) X dX10_ringsFrom_94 (by decide) (fun h94 => ?_) (fun h94 => ?_)
    · skip
      (exfalso; omega)
    · skip
      exact hret _ _ _ _ dX10_ringsFrom_97 rfl rfl (⟨rfl, fun _ _ _ => rfl, MFo_5 (by omega)⟩)
  · skip
    refine am_aload_n (x := 63) X (by rfl) dX10_ringsFrom_21 ?_
    refine am_get (v := σ 63 27) X 63 fl_X10_269 (by decide) sh_63 (by decide) (rfl) dX10_ringsFrom_22 ?_
    refine am_if_lt (tgt := 64) X dX10_ringsFrom_25 (by decide) (fun h25 => ?_) (fun h25 => ?_)
    · skip
      refine am_ic X (by decide) dX10_ringsFrom_64 ?_
      refine am_goto (tgt := 69) X dX10_ringsFrom_65 (by decide) ?_
      refine am_istore (i := 5) (L' := [some (vr 63), some (vi (first : Int)), some (vi (last : Int)), some (vi bits), some (vi ow), some (vi 1), none]) X (Nat.le_of_ble_eq_true rfl) (by rfl) dX10_ringsFrom_69 ?_
      refine am_aload_n (x := 63) X (by rfl) dX10_ringsFrom_71 ?_
      refine am_iload (x := 1) X (by rfl) dX10_ringsFrom_72 ?_
      refine am_if_eq (tgt := 81) X dX10_ringsFrom_74 (by decide) (fun h => absurd h (by decide)) (fun _ => ?_)
      refine am_iload_n (x := bits) X (by rfl) dX10_ringsFrom_77 ?_
      refine am_goto (tgt := 85) X dX10_ringsFrom_78 (by decide) ?_
      refine am_puti X 63 fl_X10_269 rfl rfl sh_63 (by decide) dX10_ringsFrom_85 ?_
      exact hret _ _ _ _ dX10_ringsFrom_88 rfl rfl (⟨rfl, fun c k h => am_up_k (by omega), MFo_cl (by omega) hvi (by rw [am_up_eq]; exact Or.inl ⟨hb, rg_bl_1 (by omega)⟩)⟩)
    · skip
      refine am_iload_n (x := bits) X (by rfl) dX10_ringsFrom_28 ?_
      refine am_callSi X hY lk_X10_272 mf_X10_bitsOf (m_X10_bitsOf σ bits s hb hs.2) (by decide) (by decide) (Nat.le_refl _) (Nat.le_refl _) rfl rfl (Nat.le_of_ble_eq_true rfl) dX10_ringsFrom_29 (fun r29 sh29 σ29 hr29 hp29 => ?_)
      obtain ⟨rfl, rfl, hq29⟩ := hp29
      refine am_aload_n (x := 63) X (by rfl) dX10_ringsFrom_32 ?_
      refine am_get (v := σ 63 27) X 63 fl_X10_269 (by decide) sh_63 (by decide) (rfl) dX10_ringsFrom_33 ?_
      refine am_callSi X hY lk_X10_272 mf_X10_bitsOf (m_X10_bitsOf σ (σ 63 27) (σ 63 27).toNat (by omega) (by omega)) (by decide) (by decide) (Nat.le_refl _) (Nat.le_refl _) rfl rfl (Nat.le_of_ble_eq_true rfl) dX10_ringsFrom_36 (fun r36 sh36 σ36 hr36 hp36 => ?_)
      obtain ⟨rfl, rfl, hq36⟩ := hp36
      refine am_icmp_lt (tgt := 64) X dX10_ringsFrom_39 (by decide) (fun h39 => ?_) (fun h39 => ?_)
      · skip
        refine am_ic X (by decide) dX10_ringsFrom_64 ?_
        refine am_goto (tgt := 69) X dX10_ringsFrom_65 (by decide) ?_
        refine am_istore (i := 5) (L' := [some (vr 63), some (vi (first : Int)), some (vi (last : Int)), some (vi bits), some (vi ow), some (vi 1), none]) X (Nat.le_of_ble_eq_true rfl) (by rfl) dX10_ringsFrom_69 ?_
        refine am_aload_n (x := 63) X (by rfl) dX10_ringsFrom_71 ?_
        refine am_iload (x := 1) X (by rfl) dX10_ringsFrom_72 ?_
        refine am_if_eq (tgt := 81) X dX10_ringsFrom_74 (by decide) (fun h => absurd h (by decide)) (fun _ => ?_)
        refine am_iload_n (x := bits) X (by rfl) dX10_ringsFrom_77 ?_
        refine am_goto (tgt := 85) X dX10_ringsFrom_78 (by decide) ?_
        refine am_puti X 63 fl_X10_269 rfl rfl sh_63 (by decide) dX10_ringsFrom_85 ?_
        exact hret _ _ _ _ dX10_ringsFrom_88 rfl rfl (⟨rfl, fun c k h => am_up_k (by omega), MFo_cl (by omega) hvi (by rw [am_up_eq]; exact Or.inl ⟨hb, rg_bl_1 (by omega)⟩)⟩)
      · skip
        refine am_iload_n (x := bits) X (by rfl) dX10_ringsFrom_42 ?_
        refine am_callSi X hY lk_X10_272 mf_X10_bitsOf (m_X10_bitsOf σ bits s hb hs.2) (by decide) (by decide) (Nat.le_refl _) (Nat.le_refl _) rfl rfl (Nat.le_of_ble_eq_true rfl) dX10_ringsFrom_43 (fun r43 sh43 σ43 hr43 hp43 => ?_)
        obtain ⟨rfl, rfl, hq43⟩ := hp43
        refine am_aload_n (x := 63) X (by rfl) dX10_ringsFrom_46 ?_
        refine am_get (v := σ 63 27) X 63 fl_X10_269 (by decide) sh_63 (by decide) (rfl) dX10_ringsFrom_47 ?_
        refine am_callSi X hY lk_X10_272 mf_X10_bitsOf (m_X10_bitsOf σ (σ 63 27) (σ 63 27).toNat (by omega) (by omega)) (by decide) (by decide) (Nat.le_refl _) (Nat.le_refl _) rfl rfl (Nat.le_of_ble_eq_true rfl) dX10_ringsFrom_50 (fun r50 sh50 σ50 hr50 hp50 => ?_)
        obtain ⟨rfl, rfl, hq50⟩ := hp50
        refine am_icmp_ne (tgt := 68) X dX10_ringsFrom_53 (by decide) (fun h53 => ?_) (fun h53 => ?_)
        · skip
          refine am_ic X (by decide) dX10_ringsFrom_68 ?_
          refine am_istore (i := 5) (L' := [some (vr 63), some (vi (first : Int)), some (vi (last : Int)), some (vi bits), some (vi ow), some (vi 0), none]) X (Nat.le_of_ble_eq_true rfl) (by rfl) dX10_ringsFrom_69 ?_
          refine am_aload_n (x := 63) X (by rfl) dX10_ringsFrom_71 ?_
          refine am_iload (x := 0) X (by rfl) dX10_ringsFrom_72 ?_
          refine am_if_eq (tgt := 81) X dX10_ringsFrom_74 (by decide) (fun _ => ?_) (fun h => absurd h (by decide))
          refine am_aload_n (x := 63) X (by rfl) dX10_ringsFrom_81 ?_
          refine am_get (v := σ 63 27) X 63 fl_X10_269 (by decide) sh_63 (by decide) (rfl) dX10_ringsFrom_82 ?_
          refine am_puti X 63 fl_X10_269 rfl rfl sh_63 (by decide) dX10_ringsFrom_85 ?_
          exact hret _ _ _ _ dX10_ringsFrom_88 rfl rfl (⟨rfl, fun c k h => am_up_k (by omega), MFo_cl (by omega) hvi (by rw [am_up_eq]; exact Or.inr ⟨rfl, rg_bl_2 (by omega)⟩)⟩)
        · skip
          refine am_iload_n (x := bits) X (by rfl) dX10_ringsFrom_56 ?_
          refine am_aload_n (x := 63) X (by rfl) dX10_ringsFrom_57 ?_
          refine am_get (v := σ 63 27) X 63 fl_X10_269 (by decide) sh_63 (by decide) (rfl) dX10_ringsFrom_58 ?_
          refine am_icmp_ge (tgt := 68) X dX10_ringsFrom_61 (by decide) (fun h61 => ?_) (fun h61 => ?_)
          · skip
            refine am_ic X (by decide) dX10_ringsFrom_68 ?_
            refine am_istore (i := 5) (L' := [some (vr 63), some (vi (first : Int)), some (vi (last : Int)), some (vi bits), some (vi ow), some (vi 0), none]) X (Nat.le_of_ble_eq_true rfl) (by rfl) dX10_ringsFrom_69 ?_
            refine am_aload_n (x := 63) X (by rfl) dX10_ringsFrom_71 ?_
            refine am_iload (x := 0) X (by rfl) dX10_ringsFrom_72 ?_
            refine am_if_eq (tgt := 81) X dX10_ringsFrom_74 (by decide) (fun _ => ?_) (fun h => absurd h (by decide))
            refine am_aload_n (x := 63) X (by rfl) dX10_ringsFrom_81 ?_
            refine am_get (v := σ 63 27) X 63 fl_X10_269 (by decide) sh_63 (by decide) (rfl) dX10_ringsFrom_82 ?_
            refine am_puti X 63 fl_X10_269 rfl rfl sh_63 (by decide) dX10_ringsFrom_85 ?_
            exact hret _ _ _ _ dX10_ringsFrom_88 rfl rfl (⟨rfl, fun c k h => am_up_k (by omega), MFo_cl (by omega) hvi (by rw [am_up_eq]; exact Or.inr ⟨rfl, rg_bl_2 (by omega)⟩)⟩)
          · skip
            refine am_ic X (by decide) dX10_ringsFrom_64 ?_
            refine am_goto (tgt := 69) X dX10_ringsFrom_65 (by decide) ?_
            refine am_istore (i := 5) (L' := [some (vr 63), some (vi (first : Int)), some (vi (last : Int)), some (vi bits), some (vi ow), some (vi 1), none]) X (Nat.le_of_ble_eq_true rfl) (by rfl) dX10_ringsFrom_69 ?_
            refine am_aload_n (x := 63) X (by rfl) dX10_ringsFrom_71 ?_
            refine am_iload (x := 1) X (by rfl) dX10_ringsFrom_72 ?_
            refine am_if_eq (tgt := 81) X dX10_ringsFrom_74 (by decide) (fun h => absurd h (by decide)) (fun _ => ?_)
            refine am_iload_n (x := bits) X (by rfl) dX10_ringsFrom_77 ?_
            refine am_goto (tgt := 85) X dX10_ringsFrom_78 (by decide) ?_
            refine am_puti X 63 fl_X10_269 rfl rfl sh_63 (by decide) dX10_ringsFrom_85 ?_
            exact hret _ _ _ _ dX10_ringsFrom_88 rfl rfl (⟨rfl, fun c k h => am_up_k (by omega), MFo_cl (by omega) hvi (by rw [am_up_eq]; exact Or.inl ⟨hb, rg_bl_1 (by omega)⟩)⟩)

set_option maxHeartbeats 4000000 in
set_option maxRecDepth 100000 in
theorem m_X10_ringsFrom_1 (σ : am_H) (first last s v : Nat) (bits ow : Int) (hb : bits = (s : Int)) (ho : ow = (v : Int)) (hs : 0 < s ∧ s < 1048576) (hv : v < 256) (hf : (first : Int) < σ 63 7) (hl : (last : Int) < σ 63 7) (hrb : σ 63 27 < 1048576) (hp : 0 ≤ σ 63 6 ∧ σ 63 6 ≤ 8) (hc : 0 ≤ σ 63 7 ∧ σ 63 7 ≤ 20) (hdeb : MdeV σ) (hvi : MVi σ first s v) (hpc : rg_pc 20 s + 1 = 5) : am_Mv yX10_ringsFrom cX10_ringsFrom 7 none 4 0 0 [vr 63, vi (first : Int), vi (last : Int), vi bits, vi ow] SH σ (fun sh' σ' => SH = sh' ∧ md_frr σ σ' ∧ MFo σ 1 first last s v (σ 63 27) (σ' 63 27)) := by
  refine am_Mv_of (by decide +kernel) (Nat.le_of_ble_eq_true rfl) (fun K X hY hI hret => ?_)
  show am_G K 0 [some (vr 63), some (vi (first : Int)), some (vi (last : Int)), some (vi bits), some (vi ow), none, none] [] SH σ
  have hdl := hdeb last hl
  have hdf := hdeb first hf
  have hpw : m_w σ last < 8 := by unfold m_w; omega
  have hpi : σ 68 (5 * last + 1) = (m_w σ last : Int) := by unfold m_w; omega
  have hofi : σ 68 (5 * first) = (m_o σ first : Int) := by unfold m_o; omega
  obtain ⟨hv1, hv2, hv3⟩ := rg_orv ho hv hpw hpi
  refine am_aload_n (x := 63) X (by rfl) dX10_ringsFrom_0 ?_
  refine am_getr (c1 := 68) X 63 fl_X10_22 (by decide) sh_63 (by decide) (by rfl) dX10_ringsFrom_1 ?_
  refine am_ic X (by decide) dX10_ringsFrom_4 ?_
  refine am_iload_n (x := (last : Int)) X (by rfl) dX10_ringsFrom_5 ?_
  refine am_mul (v := (5 * (last : Int))) X (by first | rfl | omega) (by omega) dX10_ringsFrom_6 ?_
  refine am_ic X (by decide) dX10_ringsFrom_7 ?_
  refine am_add (v := ((5 * (last : Int)) + 1)) X (by first | rfl | omega) (by omega) dX10_ringsFrom_8 ?_
  refine am_ald (v := σ 68 ((5 * last) + 1)) X 68 ((5 * last) + 1) sh_68 (by omega) (by omega) (rfl) dX10_ringsFrom_9 ?_
  refine am_aload_n (x := 63) X (by rfl) dX10_ringsFrom_10 ?_
  refine am_getr (c1 := 68) X 63 fl_X10_22 (by decide) sh_63 (by decide) (by rfl) dX10_ringsFrom_11 ?_
  refine am_ic X (by decide) dX10_ringsFrom_14 ?_
  refine am_iload_n (x := (first : Int)) X (by rfl) dX10_ringsFrom_15 ?_
  refine am_mul (v := (5 * (first : Int))) X (by first | rfl | omega) (by omega) dX10_ringsFrom_16 ?_
  refine am_ald (v := σ 68 (5 * first)) X 68 (5 * first) sh_68 (by omega) (by omega) (rfl) dX10_ringsFrom_17 ?_
  refine am_icmp_ne (tgt := 89) X dX10_ringsFrom_18 (by decide) (fun h18 => ?_) (fun h18 => ?_)
  · skip
    refine am_iload_n (x := bits) X (by rfl) dX10_ringsFrom_89 ?_
    refine am_callSi X hY lk_X10_272 mf_X10_bitsOf (m_X10_bitsOf σ bits s hb hs.2) (by decide) (by decide) (Nat.le_refl _) (Nat.le_refl _) rfl rfl (Nat.le_of_ble_eq_true rfl) dX10_ringsFrom_90 (fun r90 sh90 σ90 hr90 hp90 => ?_)
    obtain ⟨rfl, rfl, hq90⟩ := hp90
    refine am_ic X (by decide) dX10_ringsFrom_93 ?_
    refine am_icmp_ne (tgt := 98) X dX10_ringsFrom_94 (by decide) (fun h94 => ?_) (fun h94 => ?_)
    · skip
      refine am_ic X (by decide) dX10_ringsFrom_98 ?_
      refine am_istore (i := 5) (L' := [some (vr 63), some (vi (first : Int)), some (vi (last : Int)), some (vi bits), some (vi ow), some (vi 0), none]) X (Nat.le_of_ble_eq_true rfl) (by rfl) dX10_ringsFrom_99 ?_
      have hL101 : ∀ (m101 : Nat) (k : Nat) (τ : am_H) (hk : (k : Int) ≤ σ 63 7) (hfr : md_frr σ τ) (htb : τ 63 27 < 1048576) (hlo : MLo σ 1 first last s v k (σ 63 27) (τ 63 27)) (hm101 : 20 - k = m101), am_G K 101 [some (vr 63), some (vi (first : Int)), some (vi (last : Int)), some (vi bits), some (vi ow), some (vi (k : Int)), none] [] SH τ := by
        intro m101
        induction m101 using Nat.strongRecOn with
        | ind m101 ih101 =>
        intro k τ hk hfr htb hlo hm101
        refine am_iload (x := (k : Int)) X (by rfl) dX10_ringsFrom_101 ?_
        refine am_aload_n (x := 63) X (by rfl) dX10_ringsFrom_103 ?_
        refine am_get (v := σ 63 7) X 63 fl_X10_111 (by decide) sh_63 (by decide) (hfr 63 7 (by decide)) dX10_ringsFrom_104 ?_
        refine am_icmp_ge (tgt := 227) X dX10_ringsFrom_107 (by decide) (fun h107 => ?_) (fun h107 => ?_)
        · skip
          exact hret _ _ _ _ dX10_ringsFrom_227 rfl rfl (⟨rfl, hfr, MFo_end (by rw [show (σ 63 7).toNat = k by omega]; exact hlo) (by omega)⟩)
        · skip
          have hdk := hdeb k (by omega)
          have hok : σ 68 (5 * k) = (m_o σ k : Int) := by unfold m_o; omega
          refine am_aload_n (x := 63) X (by rfl) dX10_ringsFrom_110 ?_
          refine am_iload (x := (k : Int)) X (by rfl) dX10_ringsFrom_111 ?_
          refine am_callVi (ci := 9) X hY lk_X10_240 mf_X10_isOpen (m_X10_isOpen (k : Int) k rfl (by omega) τ) (by decide) (by decide) (Nat.le_refl _) (Nat.le_refl _) sh_63 rfl rfl rfl (Nat.le_of_ble_eq_true rfl) dX10_ringsFrom_113 (fun r113 sh113 σ113 hr113 hp113 => ?_)
          obtain ⟨rfl, rfl, hq113⟩ := hp113
          rw [hfr 68 _ (Or.inl (by decide))] at hq113
          refine am_if_eq (tgt := 186) X dX10_ringsFrom_116 (by decide) (fun h116 => ?_) (fun h116 => ?_)
          · skip
            refine am_ic X (by decide) dX10_ringsFrom_186 ?_
            refine am_istore (i := 6) (L' := [some (vr 63), some (vi (first : Int)), some (vi (last : Int)), some (vi bits), some (vi ow), some (vi (k : Int)), some (vi 0)]) X (Nat.le_of_ble_eq_true rfl) (by rfl) dX10_ringsFrom_187 ?_
            
            refine am_iload (x := 0) X (by rfl) dX10_ringsFrom_189 ?_
            refine am_if_eq (tgt := 221) X dX10_ringsFrom_191 (by decide) (fun _ => ?_) (fun h => absurd h (by decide))
            refine am_inc (x := (k : Int)) (v := ((k : Int) + 1)) (L' := [some (vr 63), some (vi (first : Int)), some (vi (last : Int)), some (vi bits), some (vi ow), some (vi ((k : Int) + 1)), some (vi 0)]) X (by rfl) (by omega) (by omega) (by rfl) dX10_ringsFrom_221 ?_
            refine am_goto (tgt := 101) X dX10_ringsFrom_224 (by decide) ?_
            refine am_fg [true, true, true, true, true, true, false] rfl (L' := [some (vr 63), some (vi (first : Int)), some (vi (last : Int)), some (vi bits), some (vi ow), some (vi ((k : Int) + 1)), none]) rfl ?_
            exact ih101 _ (by omega) (k + 1) τ (by omega) (hfr) (htb) (MLo_no hlo (fun q => by have q4 := q.2.2.2; have q3 := q.2.2.1; have q2 : σ 68 (5 * k + 3) = σ 68 (5 * first + 3) := q.2.1; have q1 := q.1; first | omega | (have h1 : σ 68 (5 * k) = σ 68 (5 * last + 1) := (by omega); rw [h1, hv3, q4] at h179; exact absurd h179 (by decide)))) rfl
          · skip
            refine am_aload_n (x := 63) X (by rfl) dX10_ringsFrom_119 ?_
            refine am_getr (c1 := 68) X 63 fl_X10_22 (by decide) sh_63 (by decide) (by rfl) dX10_ringsFrom_120 ?_
            refine am_ic X (by decide) dX10_ringsFrom_123 ?_
            refine am_iload (x := (k : Int)) X (by rfl) dX10_ringsFrom_124 ?_
            refine am_mul (v := (5 * (k : Int))) X (by first | rfl | omega) (by omega) dX10_ringsFrom_126 ?_
            refine am_ic X (by decide) dX10_ringsFrom_127 ?_
            refine am_add (v := ((5 * (k : Int)) + 3)) X (by first | rfl | omega) (by omega) dX10_ringsFrom_128 ?_
            refine am_ald (v := σ 68 ((5 * k) + 3)) X 68 ((5 * k) + 3) sh_68 (by omega) (by omega) (hfr 68 ((5 * k) + 3) (Or.inl (by decide))) dX10_ringsFrom_129 ?_
            refine am_aload_n (x := 63) X (by rfl) dX10_ringsFrom_130 ?_
            refine am_getr (c1 := 68) X 63 fl_X10_22 (by decide) sh_63 (by decide) (by rfl) dX10_ringsFrom_131 ?_
            refine am_ic X (by decide) dX10_ringsFrom_134 ?_
            refine am_iload_n (x := (first : Int)) X (by rfl) dX10_ringsFrom_135 ?_
            refine am_mul (v := (5 * (first : Int))) X (by first | rfl | omega) (by omega) dX10_ringsFrom_136 ?_
            refine am_ic X (by decide) dX10_ringsFrom_137 ?_
            refine am_add (v := ((5 * (first : Int)) + 3)) X (by first | rfl | omega) (by omega) dX10_ringsFrom_138 ?_
            refine am_ald (v := σ 68 ((5 * first) + 3)) X 68 ((5 * first) + 3) sh_68 (by omega) (by omega) (hfr 68 ((5 * first) + 3) (Or.inl (by decide))) dX10_ringsFrom_139 ?_
            refine am_icmp_ne (tgt := 186) X dX10_ringsFrom_140 (by decide) (fun h140 => ?_) (fun h140 => ?_)
            · skip
              refine am_ic X (by decide) dX10_ringsFrom_186 ?_
              refine am_istore (i := 6) (L' := [some (vr 63), some (vi (first : Int)), some (vi (last : Int)), some (vi bits), some (vi ow), some (vi (k : Int)), some (vi 0)]) X (Nat.le_of_ble_eq_true rfl) (by rfl) dX10_ringsFrom_187 ?_
              
              refine am_iload (x := 0) X (by rfl) dX10_ringsFrom_189 ?_
              refine am_if_eq (tgt := 221) X dX10_ringsFrom_191 (by decide) (fun _ => ?_) (fun h => absurd h (by decide))
              refine am_inc (x := (k : Int)) (v := ((k : Int) + 1)) (L' := [some (vr 63), some (vi (first : Int)), some (vi (last : Int)), some (vi bits), some (vi ow), some (vi ((k : Int) + 1)), some (vi 0)]) X (by rfl) (by omega) (by omega) (by rfl) dX10_ringsFrom_221 ?_
              refine am_goto (tgt := 101) X dX10_ringsFrom_224 (by decide) ?_
              refine am_fg [true, true, true, true, true, true, false] rfl (L' := [some (vr 63), some (vi (first : Int)), some (vi (last : Int)), some (vi bits), some (vi ow), some (vi ((k : Int) + 1)), none]) rfl ?_
              exact ih101 _ (by omega) (k + 1) τ (by omega) (hfr) (htb) (MLo_no hlo (fun q => by have q4 := q.2.2.2; have q3 := q.2.2.1; have q2 : σ 68 (5 * k + 3) = σ 68 (5 * first + 3) := q.2.1; have q1 := q.1; first | omega | (have h1 : σ 68 (5 * k) = σ 68 (5 * last + 1) := (by omega); rw [h1, hv3, q4] at h179; exact absurd h179 (by decide)))) rfl
            · skip
              refine am_aload_n (x := 63) X (by rfl) dX10_ringsFrom_143 ?_
              refine am_getr (c1 := 68) X 63 fl_X10_22 (by decide) sh_63 (by decide) (by rfl) dX10_ringsFrom_144 ?_
              refine am_ic X (by decide) dX10_ringsFrom_147 ?_
              refine am_iload (x := (k : Int)) X (by rfl) dX10_ringsFrom_148 ?_
              refine am_mul (v := (5 * (k : Int))) X (by first | rfl | omega) (by omega) dX10_ringsFrom_150 ?_
              refine am_ald (v := σ 68 (5 * k)) X 68 (5 * k) sh_68 (by omega) (by omega) (hfr 68 (5 * k) (Or.inl (by decide))) dX10_ringsFrom_151 ?_
              refine am_aload_n (x := 63) X (by rfl) dX10_ringsFrom_152 ?_
              refine am_getr (c1 := 68) X 63 fl_X10_22 (by decide) sh_63 (by decide) (by rfl) dX10_ringsFrom_153 ?_
              refine am_ic X (by decide) dX10_ringsFrom_156 ?_
              refine am_iload_n (x := (last : Int)) X (by rfl) dX10_ringsFrom_157 ?_
              refine am_mul (v := (5 * (last : Int))) X (by first | rfl | omega) (by omega) dX10_ringsFrom_158 ?_
              refine am_ic X (by decide) dX10_ringsFrom_159 ?_
              refine am_add (v := ((5 * (last : Int)) + 1)) X (by first | rfl | omega) (by omega) dX10_ringsFrom_160 ?_
              refine am_ald (v := σ 68 ((5 * last) + 1)) X 68 ((5 * last) + 1) sh_68 (by omega) (by omega) (hfr 68 ((5 * last) + 1) (Or.inl (by decide))) dX10_ringsFrom_161 ?_
              refine am_icmp_ne (tgt := 186) X dX10_ringsFrom_162 (by decide) (fun h162 => ?_) (fun h162 => ?_)
              · skip
                refine am_ic X (by decide) dX10_ringsFrom_186 ?_
                refine am_istore (i := 6) (L' := [some (vr 63), some (vi (first : Int)), some (vi (last : Int)), some (vi bits), some (vi ow), some (vi (k : Int)), some (vi 0)]) X (Nat.le_of_ble_eq_true rfl) (by rfl) dX10_ringsFrom_187 ?_
                
                refine am_iload (x := 0) X (by rfl) dX10_ringsFrom_189 ?_
                refine am_if_eq (tgt := 221) X dX10_ringsFrom_191 (by decide) (fun _ => ?_) (fun h => absurd h (by decide))
                refine am_inc (x := (k : Int)) (v := ((k : Int) + 1)) (L' := [some (vr 63), some (vi (first : Int)), some (vi (last : Int)), some (vi bits), some (vi ow), some (vi ((k : Int) + 1)), some (vi 0)]) X (by rfl) (by omega) (by omega) (by rfl) dX10_ringsFrom_221 ?_
                refine am_goto (tgt := 101) X dX10_ringsFrom_224 (by decide) ?_
                refine am_fg [true, true, true, true, true, true, false] rfl (L' := [some (vr 63), some (vi (first : Int)), some (vi (last : Int)), some (vi bits), some (vi ow), some (vi ((k : Int) + 1)), none]) rfl ?_
                exact ih101 _ (by omega) (k + 1) τ (by omega) (hfr) (htb) (MLo_no hlo (fun q => by have q4 := q.2.2.2; have q3 := q.2.2.1; have q2 : σ 68 (5 * k + 3) = σ 68 (5 * first + 3) := q.2.1; have q1 := q.1; first | omega | (have h1 : σ 68 (5 * k) = σ 68 (5 * last + 1) := (by omega); rw [h1, hv3, q4] at h179; exact absurd h179 (by decide)))) rfl
              · skip
                refine am_iload (x := ow) X (by rfl) dX10_ringsFrom_165 ?_
                refine am_aload_n (x := 63) X (by rfl) dX10_ringsFrom_167 ?_
                refine am_getr (c1 := 68) X 63 fl_X10_22 (by decide) sh_63 (by decide) (by rfl) dX10_ringsFrom_168 ?_
                refine am_ic X (by decide) dX10_ringsFrom_171 ?_
                refine am_iload (x := (k : Int)) X (by rfl) dX10_ringsFrom_172 ?_
                refine am_mul (v := (5 * (k : Int))) X (by first | rfl | omega) (by omega) dX10_ringsFrom_174 ?_
                refine am_ald (v := σ 68 (5 * k)) X 68 (5 * k) sh_68 (by omega) (by omega) (hfr 68 (5 * k) (Or.inl (by decide))) dX10_ringsFrom_175 ?_
                refine am_ishr X dX10_ringsFrom_176 ?_
                refine am_ic X (by decide) dX10_ringsFrom_177 ?_
                refine am_iand X dX10_ringsFrom_178 ?_
                refine am_if_ne (tgt := 186) X dX10_ringsFrom_179 (by decide) (fun h179 => ?_) (fun h179 => ?_)
                · skip
                  refine am_ic X (by decide) dX10_ringsFrom_186 ?_
                  refine am_istore (i := 6) (L' := [some (vr 63), some (vi (first : Int)), some (vi (last : Int)), some (vi bits), some (vi ow), some (vi (k : Int)), some (vi 0)]) X (Nat.le_of_ble_eq_true rfl) (by rfl) dX10_ringsFrom_187 ?_
                  
                  refine am_iload (x := 0) X (by rfl) dX10_ringsFrom_189 ?_
                  refine am_if_eq (tgt := 221) X dX10_ringsFrom_191 (by decide) (fun _ => ?_) (fun h => absurd h (by decide))
                  refine am_inc (x := (k : Int)) (v := ((k : Int) + 1)) (L' := [some (vr 63), some (vi (first : Int)), some (vi (last : Int)), some (vi bits), some (vi ow), some (vi ((k : Int) + 1)), some (vi 0)]) X (by rfl) (by omega) (by omega) (by rfl) dX10_ringsFrom_221 ?_
                  refine am_goto (tgt := 101) X dX10_ringsFrom_224 (by decide) ?_
                  refine am_fg [true, true, true, true, true, true, false] rfl (L' := [some (vr 63), some (vi (first : Int)), some (vi (last : Int)), some (vi bits), some (vi ow), some (vi ((k : Int) + 1)), none]) rfl ?_
                  exact ih101 _ (by omega) (k + 1) τ (by omega) (hfr) (htb) (MLo_no hlo (fun q => by have q4 := q.2.2.2; have q3 := q.2.2.1; have q2 : σ 68 (5 * k + 3) = σ 68 (5 * first + 3) := q.2.1; have q1 := q.1; first | omega | (have h1 : σ 68 (5 * k) = σ 68 (5 * last + 1) := (by omega); rw [h1, hv3, q4] at h179; exact absurd h179 (by decide)))) rfl
                · skip
                  refine am_ic X (by decide) dX10_ringsFrom_182 ?_
                  refine am_goto (tgt := 187) X dX10_ringsFrom_183 (by decide) ?_
                  refine am_istore (i := 6) (L' := [some (vr 63), some (vi (first : Int)), some (vi (last : Int)), some (vi bits), some (vi ow), some (vi (k : Int)), some (vi 1)]) X (Nat.le_of_ble_eq_true rfl) (by rfl) dX10_ringsFrom_187 ?_
                  
                  refine am_iload (x := 1) X (by rfl) dX10_ringsFrom_189 ?_
                  refine am_if_eq (tgt := 221) X dX10_ringsFrom_191 (by decide) (fun h => absurd h (by decide)) (fun _ => ?_)
                  have hbit : v.testBit (m_w σ last) = false := by
                    have h1 : σ 68 (5 * k) = σ 68 (5 * last + 1) := by omega
                    rw [h1, hv3] at h179
                    cases e : v.testBit (m_w σ last)
                    · rfl
                    · rw [e] at h179; exact absurd h179 (by decide)
                  have hokw : m_o σ k = m_w σ last := by omega
                  have hsk := rg_orl hb hs.2 (k := k) (by omega) (i := (k : Int)) rfl
                  have hvk := rg_orv ho hv (p := m_o σ k) (by omega) hok
                  have hmv := MVi_s hvi hokw hbit
                  refine am_aload_n (x := 63) X (by rfl) dX10_ringsFrom_194 ?_
                  refine am_iload_n (x := (first : Int)) X (by rfl) dX10_ringsFrom_195 ?_
                  refine am_iload (x := (k : Int)) X (by rfl) dX10_ringsFrom_196 ?_
                  refine am_iload_n (x := bits) X (by rfl) dX10_ringsFrom_198 ?_
                  refine am_ic X (by decide) dX10_ringsFrom_199 ?_
                  refine am_iload (x := (k : Int)) X (by rfl) dX10_ringsFrom_200 ?_
                  refine am_ishl X dX10_ringsFrom_202 ?_
                  refine am_ior X dX10_ringsFrom_203 ?_
                  refine am_iload (x := ow) X (by rfl) dX10_ringsFrom_204 ?_
                  refine am_ic X (by decide) dX10_ringsFrom_206 ?_
                  refine am_aload_n (x := 63) X (by rfl) dX10_ringsFrom_207 ?_
                  refine am_getr (c1 := 68) X 63 fl_X10_22 (by decide) sh_63 (by decide) (by rfl) dX10_ringsFrom_208 ?_
                  refine am_ic X (by decide) dX10_ringsFrom_211 ?_
                  refine am_iload (x := (k : Int)) X (by rfl) dX10_ringsFrom_212 ?_
                  refine am_mul (v := (5 * (k : Int))) X (by first | rfl | omega) (by omega) dX10_ringsFrom_214 ?_
                  refine am_ald (v := σ 68 (5 * k)) X 68 (5 * k) sh_68 (by omega) (by omega) (hfr 68 (5 * k) (Or.inl (by decide))) dX10_ringsFrom_215 ?_
                  refine am_ishl X dX10_ringsFrom_216 ?_
                  refine am_ior X dX10_ringsFrom_217 ?_
                  refine am_callVv (ci := 9) X hY lk_X10_275 mf_X10_ringsFrom (m_X10_ringsFrom_0 τ first k (s ||| 2 ^ k) (v ||| 2 ^ m_o σ k) (am_or bits (am_shl 1 (k : Int))) (am_or ow (am_shl 1 (σ 68 (5 * k)))) hsk.1 hvk.1 ⟨Nat.lt_of_lt_of_le hs.1 Nat.left_le_or, hsk.2⟩ hvk.2.1 (by rw [hfr 63 7 (by decide)]; exact hf) (by rw [hfr 63 7 (by decide)]; omega) htb (by rw [hfr 63 6 (by decide)]; exact hp) (by rw [hfr 63 7 (by decide)]; exact hc) (md_deb_frr hfr hdeb) (MVi_fr hfr hmv.1) (rg_pc_s (by omega) hmv.2 hpc)) (by decide) (by decide) (Nat.le_refl _) (Nat.le_refl _) sh_63 rfl rfl rfl (Nat.le_of_ble_eq_true rfl) dX10_ringsFrom_218 (fun sh218 σ218 hp218 => ?_)
                  obtain ⟨rfl, hf218, hq218⟩ := hp218
                  have hq218 := MFo_fr hfr hq218
                  refine am_inc (x := (k : Int)) (v := ((k : Int) + 1)) (L' := [some (vr 63), some (vi (first : Int)), some (vi (last : Int)), some (vi bits), some (vi ow), some (vi ((k : Int) + 1)), some (vi 1)]) X (by rfl) (by omega) (by omega) (by rfl) dX10_ringsFrom_221 ?_
                  refine am_goto (tgt := 101) X dX10_ringsFrom_224 (by decide) ?_
                  refine am_fg [true, true, true, true, true, true, false] rfl (L' := [some (vr 63), some (vi (first : Int)), some (vi (last : Int)), some (vi bits), some (vi ow), some (vi ((k : Int) + 1)), none]) rfl ?_
                  exact ih101 _ (by omega) (k + 1) σ218 (by omega) (fun c j h => (hf218 c j h).trans (hfr c j h)) (by exact MFo_bd hq218 hsk.2 htb (by omega)) (MLo_yes hlo (by omega) (by omega) (by show σ 68 (5 * k + 3) = σ 68 (5 * first + 3); omega) hokw hbit hq218) rfl
      exact hL101 _ 0 σ (by omega) (fun _ _ _ => rfl) (hrb) (MLo_0) rfl
    · skip
      (exfalso; omega)
  · skip
    refine am_aload_n (x := 63) X (by rfl) dX10_ringsFrom_21 ?_
    refine am_get (v := σ 63 27) X 63 fl_X10_269 (by decide) sh_63 (by decide) (rfl) dX10_ringsFrom_22 ?_
    refine am_if_lt (tgt := 64) X dX10_ringsFrom_25 (by decide) (fun h25 => ?_) (fun h25 => ?_)
    · skip
      refine am_ic X (by decide) dX10_ringsFrom_64 ?_
      refine am_goto (tgt := 69) X dX10_ringsFrom_65 (by decide) ?_
      refine am_istore (i := 5) (L' := [some (vr 63), some (vi (first : Int)), some (vi (last : Int)), some (vi bits), some (vi ow), some (vi 1), none]) X (Nat.le_of_ble_eq_true rfl) (by rfl) dX10_ringsFrom_69 ?_
      refine am_aload_n (x := 63) X (by rfl) dX10_ringsFrom_71 ?_
      refine am_iload (x := 1) X (by rfl) dX10_ringsFrom_72 ?_
      refine am_if_eq (tgt := 81) X dX10_ringsFrom_74 (by decide) (fun h => absurd h (by decide)) (fun _ => ?_)
      refine am_iload_n (x := bits) X (by rfl) dX10_ringsFrom_77 ?_
      refine am_goto (tgt := 85) X dX10_ringsFrom_78 (by decide) ?_
      refine am_puti X 63 fl_X10_269 rfl rfl sh_63 (by decide) dX10_ringsFrom_85 ?_
      exact hret _ _ _ _ dX10_ringsFrom_88 rfl rfl (⟨rfl, fun c k h => am_up_k (by omega), MFo_cl (by omega) hvi (by rw [am_up_eq]; exact Or.inl ⟨hb, rg_bl_1 (by omega)⟩)⟩)
    · skip
      refine am_iload_n (x := bits) X (by rfl) dX10_ringsFrom_28 ?_
      refine am_callSi X hY lk_X10_272 mf_X10_bitsOf (m_X10_bitsOf σ bits s hb hs.2) (by decide) (by decide) (Nat.le_refl _) (Nat.le_refl _) rfl rfl (Nat.le_of_ble_eq_true rfl) dX10_ringsFrom_29 (fun r29 sh29 σ29 hr29 hp29 => ?_)
      obtain ⟨rfl, rfl, hq29⟩ := hp29
      refine am_aload_n (x := 63) X (by rfl) dX10_ringsFrom_32 ?_
      refine am_get (v := σ 63 27) X 63 fl_X10_269 (by decide) sh_63 (by decide) (rfl) dX10_ringsFrom_33 ?_
      refine am_callSi X hY lk_X10_272 mf_X10_bitsOf (m_X10_bitsOf σ (σ 63 27) (σ 63 27).toNat (by omega) (by omega)) (by decide) (by decide) (Nat.le_refl _) (Nat.le_refl _) rfl rfl (Nat.le_of_ble_eq_true rfl) dX10_ringsFrom_36 (fun r36 sh36 σ36 hr36 hp36 => ?_)
      obtain ⟨rfl, rfl, hq36⟩ := hp36
      refine am_icmp_lt (tgt := 64) X dX10_ringsFrom_39 (by decide) (fun h39 => ?_) (fun h39 => ?_)
      · skip
        refine am_ic X (by decide) dX10_ringsFrom_64 ?_
        refine am_goto (tgt := 69) X dX10_ringsFrom_65 (by decide) ?_
        refine am_istore (i := 5) (L' := [some (vr 63), some (vi (first : Int)), some (vi (last : Int)), some (vi bits), some (vi ow), some (vi 1), none]) X (Nat.le_of_ble_eq_true rfl) (by rfl) dX10_ringsFrom_69 ?_
        refine am_aload_n (x := 63) X (by rfl) dX10_ringsFrom_71 ?_
        refine am_iload (x := 1) X (by rfl) dX10_ringsFrom_72 ?_
        refine am_if_eq (tgt := 81) X dX10_ringsFrom_74 (by decide) (fun h => absurd h (by decide)) (fun _ => ?_)
        refine am_iload_n (x := bits) X (by rfl) dX10_ringsFrom_77 ?_
        refine am_goto (tgt := 85) X dX10_ringsFrom_78 (by decide) ?_
        refine am_puti X 63 fl_X10_269 rfl rfl sh_63 (by decide) dX10_ringsFrom_85 ?_
        exact hret _ _ _ _ dX10_ringsFrom_88 rfl rfl (⟨rfl, fun c k h => am_up_k (by omega), MFo_cl (by omega) hvi (by rw [am_up_eq]; exact Or.inl ⟨hb, rg_bl_1 (by omega)⟩)⟩)
      · skip
        refine am_iload_n (x := bits) X (by rfl) dX10_ringsFrom_42 ?_
        refine am_callSi X hY lk_X10_272 mf_X10_bitsOf (m_X10_bitsOf σ bits s hb hs.2) (by decide) (by decide) (Nat.le_refl _) (Nat.le_refl _) rfl rfl (Nat.le_of_ble_eq_true rfl) dX10_ringsFrom_43 (fun r43 sh43 σ43 hr43 hp43 => ?_)
        obtain ⟨rfl, rfl, hq43⟩ := hp43
        refine am_aload_n (x := 63) X (by rfl) dX10_ringsFrom_46 ?_
        refine am_get (v := σ 63 27) X 63 fl_X10_269 (by decide) sh_63 (by decide) (rfl) dX10_ringsFrom_47 ?_
        refine am_callSi X hY lk_X10_272 mf_X10_bitsOf (m_X10_bitsOf σ (σ 63 27) (σ 63 27).toNat (by omega) (by omega)) (by decide) (by decide) (Nat.le_refl _) (Nat.le_refl _) rfl rfl (Nat.le_of_ble_eq_true rfl) dX10_ringsFrom_50 (fun r50 sh50 σ50 hr50 hp50 => ?_)
        obtain ⟨rfl, rfl, hq50⟩ := hp50
        refine am_icmp_ne (tgt := 68) X dX10_ringsFrom_53 (by decide) (fun h53 => ?_) (fun h53 => ?_)
        · skip
          refine am_ic X (by decide) dX10_ringsFrom_68 ?_
          refine am_istore (i := 5) (L' := [some (vr 63), some (vi (first : Int)), some (vi (last : Int)), some (vi bits), some (vi ow), some (vi 0), none]) X (Nat.le_of_ble_eq_true rfl) (by rfl) dX10_ringsFrom_69 ?_
          refine am_aload_n (x := 63) X (by rfl) dX10_ringsFrom_71 ?_
          refine am_iload (x := 0) X (by rfl) dX10_ringsFrom_72 ?_
          refine am_if_eq (tgt := 81) X dX10_ringsFrom_74 (by decide) (fun _ => ?_) (fun h => absurd h (by decide))
          refine am_aload_n (x := 63) X (by rfl) dX10_ringsFrom_81 ?_
          refine am_get (v := σ 63 27) X 63 fl_X10_269 (by decide) sh_63 (by decide) (rfl) dX10_ringsFrom_82 ?_
          refine am_puti X 63 fl_X10_269 rfl rfl sh_63 (by decide) dX10_ringsFrom_85 ?_
          exact hret _ _ _ _ dX10_ringsFrom_88 rfl rfl (⟨rfl, fun c k h => am_up_k (by omega), MFo_cl (by omega) hvi (by rw [am_up_eq]; exact Or.inr ⟨rfl, rg_bl_2 (by omega)⟩)⟩)
        · skip
          refine am_iload_n (x := bits) X (by rfl) dX10_ringsFrom_56 ?_
          refine am_aload_n (x := 63) X (by rfl) dX10_ringsFrom_57 ?_
          refine am_get (v := σ 63 27) X 63 fl_X10_269 (by decide) sh_63 (by decide) (rfl) dX10_ringsFrom_58 ?_
          refine am_icmp_ge (tgt := 68) X dX10_ringsFrom_61 (by decide) (fun h61 => ?_) (fun h61 => ?_)
          · skip
            refine am_ic X (by decide) dX10_ringsFrom_68 ?_
            refine am_istore (i := 5) (L' := [some (vr 63), some (vi (first : Int)), some (vi (last : Int)), some (vi bits), some (vi ow), some (vi 0), none]) X (Nat.le_of_ble_eq_true rfl) (by rfl) dX10_ringsFrom_69 ?_
            refine am_aload_n (x := 63) X (by rfl) dX10_ringsFrom_71 ?_
            refine am_iload (x := 0) X (by rfl) dX10_ringsFrom_72 ?_
            refine am_if_eq (tgt := 81) X dX10_ringsFrom_74 (by decide) (fun _ => ?_) (fun h => absurd h (by decide))
            refine am_aload_n (x := 63) X (by rfl) dX10_ringsFrom_81 ?_
            refine am_get (v := σ 63 27) X 63 fl_X10_269 (by decide) sh_63 (by decide) (rfl) dX10_ringsFrom_82 ?_
            refine am_puti X 63 fl_X10_269 rfl rfl sh_63 (by decide) dX10_ringsFrom_85 ?_
            exact hret _ _ _ _ dX10_ringsFrom_88 rfl rfl (⟨rfl, fun c k h => am_up_k (by omega), MFo_cl (by omega) hvi (by rw [am_up_eq]; exact Or.inr ⟨rfl, rg_bl_2 (by omega)⟩)⟩)
          · skip
            refine am_ic X (by decide) dX10_ringsFrom_64 ?_
            refine am_goto (tgt := 69) X dX10_ringsFrom_65 (by decide) ?_
            refine am_istore (i := 5) (L' := [some (vr 63), some (vi (first : Int)), some (vi (last : Int)), some (vi bits), some (vi ow), some (vi 1), none]) X (Nat.le_of_ble_eq_true rfl) (by rfl) dX10_ringsFrom_69 ?_
            refine am_aload_n (x := 63) X (by rfl) dX10_ringsFrom_71 ?_
            refine am_iload (x := 1) X (by rfl) dX10_ringsFrom_72 ?_
            refine am_if_eq (tgt := 81) X dX10_ringsFrom_74 (by decide) (fun h => absurd h (by decide)) (fun _ => ?_)
            refine am_iload_n (x := bits) X (by rfl) dX10_ringsFrom_77 ?_
            refine am_goto (tgt := 85) X dX10_ringsFrom_78 (by decide) ?_
            refine am_puti X 63 fl_X10_269 rfl rfl sh_63 (by decide) dX10_ringsFrom_85 ?_
            exact hret _ _ _ _ dX10_ringsFrom_88 rfl rfl (⟨rfl, fun c k h => am_up_k (by omega), MFo_cl (by omega) hvi (by rw [am_up_eq]; exact Or.inl ⟨hb, rg_bl_1 (by omega)⟩)⟩)

set_option maxHeartbeats 4000000 in
set_option maxRecDepth 100000 in
theorem m_X10_ringsFrom_2 (σ : am_H) (first last s v : Nat) (bits ow : Int) (hb : bits = (s : Int)) (ho : ow = (v : Int)) (hs : 0 < s ∧ s < 1048576) (hv : v < 256) (hf : (first : Int) < σ 63 7) (hl : (last : Int) < σ 63 7) (hrb : σ 63 27 < 1048576) (hp : 0 ≤ σ 63 6 ∧ σ 63 6 ≤ 8) (hc : 0 ≤ σ 63 7 ∧ σ 63 7 ≤ 20) (hdeb : MdeV σ) (hvi : MVi σ first s v) (hpc : rg_pc 20 s + 2 = 5) : am_Mv yX10_ringsFrom cX10_ringsFrom 7 none 5 0 0 [vr 63, vi (first : Int), vi (last : Int), vi bits, vi ow] SH σ (fun sh' σ' => SH = sh' ∧ md_frr σ σ' ∧ MFo σ 2 first last s v (σ 63 27) (σ' 63 27)) := by
  refine am_Mv_of (by decide +kernel) (Nat.le_of_ble_eq_true rfl) (fun K X hY hI hret => ?_)
  show am_G K 0 [some (vr 63), some (vi (first : Int)), some (vi (last : Int)), some (vi bits), some (vi ow), none, none] [] SH σ
  have hdl := hdeb last hl
  have hdf := hdeb first hf
  have hpw : m_w σ last < 8 := by unfold m_w; omega
  have hpi : σ 68 (5 * last + 1) = (m_w σ last : Int) := by unfold m_w; omega
  have hofi : σ 68 (5 * first) = (m_o σ first : Int) := by unfold m_o; omega
  obtain ⟨hv1, hv2, hv3⟩ := rg_orv ho hv hpw hpi
  refine am_aload_n (x := 63) X (by rfl) dX10_ringsFrom_0 ?_
  refine am_getr (c1 := 68) X 63 fl_X10_22 (by decide) sh_63 (by decide) (by rfl) dX10_ringsFrom_1 ?_
  refine am_ic X (by decide) dX10_ringsFrom_4 ?_
  refine am_iload_n (x := (last : Int)) X (by rfl) dX10_ringsFrom_5 ?_
  refine am_mul (v := (5 * (last : Int))) X (by first | rfl | omega) (by omega) dX10_ringsFrom_6 ?_
  refine am_ic X (by decide) dX10_ringsFrom_7 ?_
  refine am_add (v := ((5 * (last : Int)) + 1)) X (by first | rfl | omega) (by omega) dX10_ringsFrom_8 ?_
  refine am_ald (v := σ 68 ((5 * last) + 1)) X 68 ((5 * last) + 1) sh_68 (by omega) (by omega) (rfl) dX10_ringsFrom_9 ?_
  refine am_aload_n (x := 63) X (by rfl) dX10_ringsFrom_10 ?_
  refine am_getr (c1 := 68) X 63 fl_X10_22 (by decide) sh_63 (by decide) (by rfl) dX10_ringsFrom_11 ?_
  refine am_ic X (by decide) dX10_ringsFrom_14 ?_
  refine am_iload_n (x := (first : Int)) X (by rfl) dX10_ringsFrom_15 ?_
  refine am_mul (v := (5 * (first : Int))) X (by first | rfl | omega) (by omega) dX10_ringsFrom_16 ?_
  refine am_ald (v := σ 68 (5 * first)) X 68 (5 * first) sh_68 (by omega) (by omega) (rfl) dX10_ringsFrom_17 ?_
  refine am_icmp_ne (tgt := 89) X dX10_ringsFrom_18 (by decide) (fun h18 => ?_) (fun h18 => ?_)
  · skip
    refine am_iload_n (x := bits) X (by rfl) dX10_ringsFrom_89 ?_
    refine am_callSi X hY lk_X10_272 mf_X10_bitsOf (m_X10_bitsOf σ bits s hb hs.2) (by decide) (by decide) (Nat.le_refl _) (Nat.le_refl _) rfl rfl (Nat.le_of_ble_eq_true rfl) dX10_ringsFrom_90 (fun r90 sh90 σ90 hr90 hp90 => ?_)
    obtain ⟨rfl, rfl, hq90⟩ := hp90
    refine am_ic X (by decide) dX10_ringsFrom_93 ?_
    refine am_icmp_ne (tgt := 98) X dX10_ringsFrom_94 (by decide) (fun h94 => ?_) (fun h94 => ?_)
    · skip
      refine am_ic X (by decide) dX10_ringsFrom_98 ?_
      refine am_istore (i := 5) (L' := [some (vr 63), some (vi (first : Int)), some (vi (last : Int)), some (vi bits), some (vi ow), some (vi 0), none]) X (Nat.le_of_ble_eq_true rfl) (by rfl) dX10_ringsFrom_99 ?_
      have hL101 : ∀ (m101 : Nat) (k : Nat) (τ : am_H) (hk : (k : Int) ≤ σ 63 7) (hfr : md_frr σ τ) (htb : τ 63 27 < 1048576) (hlo : MLo σ 2 first last s v k (σ 63 27) (τ 63 27)) (hm101 : 20 - k = m101), am_G K 101 [some (vr 63), some (vi (first : Int)), some (vi (last : Int)), some (vi bits), some (vi ow), some (vi (k : Int)), none] [] SH τ := by
        intro m101
        induction m101 using Nat.strongRecOn with
        | ind m101 ih101 =>
        intro k τ hk hfr htb hlo hm101
        refine am_iload (x := (k : Int)) X (by rfl) dX10_ringsFrom_101 ?_
        refine am_aload_n (x := 63) X (by rfl) dX10_ringsFrom_103 ?_
        refine am_get (v := σ 63 7) X 63 fl_X10_111 (by decide) sh_63 (by decide) (hfr 63 7 (by decide)) dX10_ringsFrom_104 ?_
        refine am_icmp_ge (tgt := 227) X dX10_ringsFrom_107 (by decide) (fun h107 => ?_) (fun h107 => ?_)
        · skip
          exact hret _ _ _ _ dX10_ringsFrom_227 rfl rfl (⟨rfl, hfr, MFo_end (by rw [show (σ 63 7).toNat = k by omega]; exact hlo) (by omega)⟩)
        · skip
          have hdk := hdeb k (by omega)
          have hok : σ 68 (5 * k) = (m_o σ k : Int) := by unfold m_o; omega
          refine am_aload_n (x := 63) X (by rfl) dX10_ringsFrom_110 ?_
          refine am_iload (x := (k : Int)) X (by rfl) dX10_ringsFrom_111 ?_
          refine am_callVi (ci := 9) X hY lk_X10_240 mf_X10_isOpen (m_X10_isOpen (k : Int) k rfl (by omega) τ) (by decide) (by decide) (Nat.le_refl _) (Nat.le_refl _) sh_63 rfl rfl rfl (Nat.le_of_ble_eq_true rfl) dX10_ringsFrom_113 (fun r113 sh113 σ113 hr113 hp113 => ?_)
          obtain ⟨rfl, rfl, hq113⟩ := hp113
          rw [hfr 68 _ (Or.inl (by decide))] at hq113
          refine am_if_eq (tgt := 186) X dX10_ringsFrom_116 (by decide) (fun h116 => ?_) (fun h116 => ?_)
          · skip
            refine am_ic X (by decide) dX10_ringsFrom_186 ?_
            refine am_istore (i := 6) (L' := [some (vr 63), some (vi (first : Int)), some (vi (last : Int)), some (vi bits), some (vi ow), some (vi (k : Int)), some (vi 0)]) X (Nat.le_of_ble_eq_true rfl) (by rfl) dX10_ringsFrom_187 ?_
            
            refine am_iload (x := 0) X (by rfl) dX10_ringsFrom_189 ?_
            refine am_if_eq (tgt := 221) X dX10_ringsFrom_191 (by decide) (fun _ => ?_) (fun h => absurd h (by decide))
            refine am_inc (x := (k : Int)) (v := ((k : Int) + 1)) (L' := [some (vr 63), some (vi (first : Int)), some (vi (last : Int)), some (vi bits), some (vi ow), some (vi ((k : Int) + 1)), some (vi 0)]) X (by rfl) (by omega) (by omega) (by rfl) dX10_ringsFrom_221 ?_
            refine am_goto (tgt := 101) X dX10_ringsFrom_224 (by decide) ?_
            refine am_fg [true, true, true, true, true, true, false] rfl (L' := [some (vr 63), some (vi (first : Int)), some (vi (last : Int)), some (vi bits), some (vi ow), some (vi ((k : Int) + 1)), none]) rfl ?_
            exact ih101 _ (by omega) (k + 1) τ (by omega) (hfr) (htb) (MLo_no hlo (fun q => by have q4 := q.2.2.2; have q3 := q.2.2.1; have q2 : σ 68 (5 * k + 3) = σ 68 (5 * first + 3) := q.2.1; have q1 := q.1; first | omega | (have h1 : σ 68 (5 * k) = σ 68 (5 * last + 1) := (by omega); rw [h1, hv3, q4] at h179; exact absurd h179 (by decide)))) rfl
          · skip
            refine am_aload_n (x := 63) X (by rfl) dX10_ringsFrom_119 ?_
            refine am_getr (c1 := 68) X 63 fl_X10_22 (by decide) sh_63 (by decide) (by rfl) dX10_ringsFrom_120 ?_
            refine am_ic X (by decide) dX10_ringsFrom_123 ?_
            refine am_iload (x := (k : Int)) X (by rfl) dX10_ringsFrom_124 ?_
            refine am_mul (v := (5 * (k : Int))) X (by first | rfl | omega) (by omega) dX10_ringsFrom_126 ?_
            refine am_ic X (by decide) dX10_ringsFrom_127 ?_
            refine am_add (v := ((5 * (k : Int)) + 3)) X (by first | rfl | omega) (by omega) dX10_ringsFrom_128 ?_
            refine am_ald (v := σ 68 ((5 * k) + 3)) X 68 ((5 * k) + 3) sh_68 (by omega) (by omega) (hfr 68 ((5 * k) + 3) (Or.inl (by decide))) dX10_ringsFrom_129 ?_
            refine am_aload_n (x := 63) X (by rfl) dX10_ringsFrom_130 ?_
            refine am_getr (c1 := 68) X 63 fl_X10_22 (by decide) sh_63 (by decide) (by rfl) dX10_ringsFrom_131 ?_
            refine am_ic X (by decide) dX10_ringsFrom_134 ?_
            refine am_iload_n (x := (first : Int)) X (by rfl) dX10_ringsFrom_135 ?_
            refine am_mul (v := (5 * (first : Int))) X (by first | rfl | omega) (by omega) dX10_ringsFrom_136 ?_
            refine am_ic X (by decide) dX10_ringsFrom_137 ?_
            refine am_add (v := ((5 * (first : Int)) + 3)) X (by first | rfl | omega) (by omega) dX10_ringsFrom_138 ?_
            refine am_ald (v := σ 68 ((5 * first) + 3)) X 68 ((5 * first) + 3) sh_68 (by omega) (by omega) (hfr 68 ((5 * first) + 3) (Or.inl (by decide))) dX10_ringsFrom_139 ?_
            refine am_icmp_ne (tgt := 186) X dX10_ringsFrom_140 (by decide) (fun h140 => ?_) (fun h140 => ?_)
            · skip
              refine am_ic X (by decide) dX10_ringsFrom_186 ?_
              refine am_istore (i := 6) (L' := [some (vr 63), some (vi (first : Int)), some (vi (last : Int)), some (vi bits), some (vi ow), some (vi (k : Int)), some (vi 0)]) X (Nat.le_of_ble_eq_true rfl) (by rfl) dX10_ringsFrom_187 ?_
              
              refine am_iload (x := 0) X (by rfl) dX10_ringsFrom_189 ?_
              refine am_if_eq (tgt := 221) X dX10_ringsFrom_191 (by decide) (fun _ => ?_) (fun h => absurd h (by decide))
              refine am_inc (x := (k : Int)) (v := ((k : Int) + 1)) (L' := [some (vr 63), some (vi (first : Int)), some (vi (last : Int)), some (vi bits), some (vi ow), some (vi ((k : Int) + 1)), some (vi 0)]) X (by rfl) (by omega) (by omega) (by rfl) dX10_ringsFrom_221 ?_
              refine am_goto (tgt := 101) X dX10_ringsFrom_224 (by decide) ?_
              refine am_fg [true, true, true, true, true, true, false] rfl (L' := [some (vr 63), some (vi (first : Int)), some (vi (last : Int)), some (vi bits), some (vi ow), some (vi ((k : Int) + 1)), none]) rfl ?_
              exact ih101 _ (by omega) (k + 1) τ (by omega) (hfr) (htb) (MLo_no hlo (fun q => by have q4 := q.2.2.2; have q3 := q.2.2.1; have q2 : σ 68 (5 * k + 3) = σ 68 (5 * first + 3) := q.2.1; have q1 := q.1; first | omega | (have h1 : σ 68 (5 * k) = σ 68 (5 * last + 1) := (by omega); rw [h1, hv3, q4] at h179; exact absurd h179 (by decide)))) rfl
            · skip
              refine am_aload_n (x := 63) X (by rfl) dX10_ringsFrom_143 ?_
              refine am_getr (c1 := 68) X 63 fl_X10_22 (by decide) sh_63 (by decide) (by rfl) dX10_ringsFrom_144 ?_
              refine am_ic X (by decide) dX10_ringsFrom_147 ?_
              refine am_iload (x := (k : Int)) X (by rfl) dX10_ringsFrom_148 ?_
              refine am_mul (v := (5 * (k : Int))) X (by first | rfl | omega) (by omega) dX10_ringsFrom_150 ?_
              refine am_ald (v := σ 68 (5 * k)) X 68 (5 * k) sh_68 (by omega) (by omega) (hfr 68 (5 * k) (Or.inl (by decide))) dX10_ringsFrom_151 ?_
              refine am_aload_n (x := 63) X (by rfl) dX10_ringsFrom_152 ?_
              refine am_getr (c1 := 68) X 63 fl_X10_22 (by decide) sh_63 (by decide) (by rfl) dX10_ringsFrom_153 ?_
              refine am_ic X (by decide) dX10_ringsFrom_156 ?_
              refine am_iload_n (x := (last : Int)) X (by rfl) dX10_ringsFrom_157 ?_
              refine am_mul (v := (5 * (last : Int))) X (by first | rfl | omega) (by omega) dX10_ringsFrom_158 ?_
              refine am_ic X (by decide) dX10_ringsFrom_159 ?_
              refine am_add (v := ((5 * (last : Int)) + 1)) X (by first | rfl | omega) (by omega) dX10_ringsFrom_160 ?_
              refine am_ald (v := σ 68 ((5 * last) + 1)) X 68 ((5 * last) + 1) sh_68 (by omega) (by omega) (hfr 68 ((5 * last) + 1) (Or.inl (by decide))) dX10_ringsFrom_161 ?_
              refine am_icmp_ne (tgt := 186) X dX10_ringsFrom_162 (by decide) (fun h162 => ?_) (fun h162 => ?_)
              · skip
                refine am_ic X (by decide) dX10_ringsFrom_186 ?_
                refine am_istore (i := 6) (L' := [some (vr 63), some (vi (first : Int)), some (vi (last : Int)), some (vi bits), some (vi ow), some (vi (k : Int)), some (vi 0)]) X (Nat.le_of_ble_eq_true rfl) (by rfl) dX10_ringsFrom_187 ?_
                
                refine am_iload (x := 0) X (by rfl) dX10_ringsFrom_189 ?_
                refine am_if_eq (tgt := 221) X dX10_ringsFrom_191 (by decide) (fun _ => ?_) (fun h => absurd h (by decide))
                refine am_inc (x := (k : Int)) (v := ((k : Int) + 1)) (L' := [some (vr 63), some (vi (first : Int)), some (vi (last : Int)), some (vi bits), some (vi ow), some (vi ((k : Int) + 1)), some (vi 0)]) X (by rfl) (by omega) (by omega) (by rfl) dX10_ringsFrom_221 ?_
                refine am_goto (tgt := 101) X dX10_ringsFrom_224 (by decide) ?_
                refine am_fg [true, true, true, true, true, true, false] rfl (L' := [some (vr 63), some (vi (first : Int)), some (vi (last : Int)), some (vi bits), some (vi ow), some (vi ((k : Int) + 1)), none]) rfl ?_
                exact ih101 _ (by omega) (k + 1) τ (by omega) (hfr) (htb) (MLo_no hlo (fun q => by have q4 := q.2.2.2; have q3 := q.2.2.1; have q2 : σ 68 (5 * k + 3) = σ 68 (5 * first + 3) := q.2.1; have q1 := q.1; first | omega | (have h1 : σ 68 (5 * k) = σ 68 (5 * last + 1) := (by omega); rw [h1, hv3, q4] at h179; exact absurd h179 (by decide)))) rfl
              · skip
                refine am_iload (x := ow) X (by rfl) dX10_ringsFrom_165 ?_
                refine am_aload_n (x := 63) X (by rfl) dX10_ringsFrom_167 ?_
                refine am_getr (c1 := 68) X 63 fl_X10_22 (by decide) sh_63 (by decide) (by rfl) dX10_ringsFrom_168 ?_
                refine am_ic X (by decide) dX10_ringsFrom_171 ?_
                refine am_iload (x := (k : Int)) X (by rfl) dX10_ringsFrom_172 ?_
                refine am_mul (v := (5 * (k : Int))) X (by first | rfl | omega) (by omega) dX10_ringsFrom_174 ?_
                refine am_ald (v := σ 68 (5 * k)) X 68 (5 * k) sh_68 (by omega) (by omega) (hfr 68 (5 * k) (Or.inl (by decide))) dX10_ringsFrom_175 ?_
                refine am_ishr X dX10_ringsFrom_176 ?_
                refine am_ic X (by decide) dX10_ringsFrom_177 ?_
                refine am_iand X dX10_ringsFrom_178 ?_
                refine am_if_ne (tgt := 186) X dX10_ringsFrom_179 (by decide) (fun h179 => ?_) (fun h179 => ?_)
                · skip
                  refine am_ic X (by decide) dX10_ringsFrom_186 ?_
                  refine am_istore (i := 6) (L' := [some (vr 63), some (vi (first : Int)), some (vi (last : Int)), some (vi bits), some (vi ow), some (vi (k : Int)), some (vi 0)]) X (Nat.le_of_ble_eq_true rfl) (by rfl) dX10_ringsFrom_187 ?_
                  
                  refine am_iload (x := 0) X (by rfl) dX10_ringsFrom_189 ?_
                  refine am_if_eq (tgt := 221) X dX10_ringsFrom_191 (by decide) (fun _ => ?_) (fun h => absurd h (by decide))
                  refine am_inc (x := (k : Int)) (v := ((k : Int) + 1)) (L' := [some (vr 63), some (vi (first : Int)), some (vi (last : Int)), some (vi bits), some (vi ow), some (vi ((k : Int) + 1)), some (vi 0)]) X (by rfl) (by omega) (by omega) (by rfl) dX10_ringsFrom_221 ?_
                  refine am_goto (tgt := 101) X dX10_ringsFrom_224 (by decide) ?_
                  refine am_fg [true, true, true, true, true, true, false] rfl (L' := [some (vr 63), some (vi (first : Int)), some (vi (last : Int)), some (vi bits), some (vi ow), some (vi ((k : Int) + 1)), none]) rfl ?_
                  exact ih101 _ (by omega) (k + 1) τ (by omega) (hfr) (htb) (MLo_no hlo (fun q => by have q4 := q.2.2.2; have q3 := q.2.2.1; have q2 : σ 68 (5 * k + 3) = σ 68 (5 * first + 3) := q.2.1; have q1 := q.1; first | omega | (have h1 : σ 68 (5 * k) = σ 68 (5 * last + 1) := (by omega); rw [h1, hv3, q4] at h179; exact absurd h179 (by decide)))) rfl
                · skip
                  refine am_ic X (by decide) dX10_ringsFrom_182 ?_
                  refine am_goto (tgt := 187) X dX10_ringsFrom_183 (by decide) ?_
                  refine am_istore (i := 6) (L' := [some (vr 63), some (vi (first : Int)), some (vi (last : Int)), some (vi bits), some (vi ow), some (vi (k : Int)), some (vi 1)]) X (Nat.le_of_ble_eq_true rfl) (by rfl) dX10_ringsFrom_187 ?_
                  
                  refine am_iload (x := 1) X (by rfl) dX10_ringsFrom_189 ?_
                  refine am_if_eq (tgt := 221) X dX10_ringsFrom_191 (by decide) (fun h => absurd h (by decide)) (fun _ => ?_)
                  have hbit : v.testBit (m_w σ last) = false := by
                    have h1 : σ 68 (5 * k) = σ 68 (5 * last + 1) := by omega
                    rw [h1, hv3] at h179
                    cases e : v.testBit (m_w σ last)
                    · rfl
                    · rw [e] at h179; exact absurd h179 (by decide)
                  have hokw : m_o σ k = m_w σ last := by omega
                  have hsk := rg_orl hb hs.2 (k := k) (by omega) (i := (k : Int)) rfl
                  have hvk := rg_orv ho hv (p := m_o σ k) (by omega) hok
                  have hmv := MVi_s hvi hokw hbit
                  refine am_aload_n (x := 63) X (by rfl) dX10_ringsFrom_194 ?_
                  refine am_iload_n (x := (first : Int)) X (by rfl) dX10_ringsFrom_195 ?_
                  refine am_iload (x := (k : Int)) X (by rfl) dX10_ringsFrom_196 ?_
                  refine am_iload_n (x := bits) X (by rfl) dX10_ringsFrom_198 ?_
                  refine am_ic X (by decide) dX10_ringsFrom_199 ?_
                  refine am_iload (x := (k : Int)) X (by rfl) dX10_ringsFrom_200 ?_
                  refine am_ishl X dX10_ringsFrom_202 ?_
                  refine am_ior X dX10_ringsFrom_203 ?_
                  refine am_iload (x := ow) X (by rfl) dX10_ringsFrom_204 ?_
                  refine am_ic X (by decide) dX10_ringsFrom_206 ?_
                  refine am_aload_n (x := 63) X (by rfl) dX10_ringsFrom_207 ?_
                  refine am_getr (c1 := 68) X 63 fl_X10_22 (by decide) sh_63 (by decide) (by rfl) dX10_ringsFrom_208 ?_
                  refine am_ic X (by decide) dX10_ringsFrom_211 ?_
                  refine am_iload (x := (k : Int)) X (by rfl) dX10_ringsFrom_212 ?_
                  refine am_mul (v := (5 * (k : Int))) X (by first | rfl | omega) (by omega) dX10_ringsFrom_214 ?_
                  refine am_ald (v := σ 68 (5 * k)) X 68 (5 * k) sh_68 (by omega) (by omega) (hfr 68 (5 * k) (Or.inl (by decide))) dX10_ringsFrom_215 ?_
                  refine am_ishl X dX10_ringsFrom_216 ?_
                  refine am_ior X dX10_ringsFrom_217 ?_
                  refine am_callVv (ci := 9) X hY lk_X10_275 mf_X10_ringsFrom (m_X10_ringsFrom_1 τ first k (s ||| 2 ^ k) (v ||| 2 ^ m_o σ k) (am_or bits (am_shl 1 (k : Int))) (am_or ow (am_shl 1 (σ 68 (5 * k)))) hsk.1 hvk.1 ⟨Nat.lt_of_lt_of_le hs.1 Nat.left_le_or, hsk.2⟩ hvk.2.1 (by rw [hfr 63 7 (by decide)]; exact hf) (by rw [hfr 63 7 (by decide)]; omega) htb (by rw [hfr 63 6 (by decide)]; exact hp) (by rw [hfr 63 7 (by decide)]; exact hc) (md_deb_frr hfr hdeb) (MVi_fr hfr hmv.1) (rg_pc_s (by omega) hmv.2 hpc)) (by decide) (by decide) (Nat.le_refl _) (Nat.le_refl _) sh_63 rfl rfl rfl (Nat.le_of_ble_eq_true rfl) dX10_ringsFrom_218 (fun sh218 σ218 hp218 => ?_)
                  obtain ⟨rfl, hf218, hq218⟩ := hp218
                  have hq218 := MFo_fr hfr hq218
                  refine am_inc (x := (k : Int)) (v := ((k : Int) + 1)) (L' := [some (vr 63), some (vi (first : Int)), some (vi (last : Int)), some (vi bits), some (vi ow), some (vi ((k : Int) + 1)), some (vi 1)]) X (by rfl) (by omega) (by omega) (by rfl) dX10_ringsFrom_221 ?_
                  refine am_goto (tgt := 101) X dX10_ringsFrom_224 (by decide) ?_
                  refine am_fg [true, true, true, true, true, true, false] rfl (L' := [some (vr 63), some (vi (first : Int)), some (vi (last : Int)), some (vi bits), some (vi ow), some (vi ((k : Int) + 1)), none]) rfl ?_
                  exact ih101 _ (by omega) (k + 1) σ218 (by omega) (fun c j h => (hf218 c j h).trans (hfr c j h)) (by exact MFo_bd hq218 hsk.2 htb (by omega)) (MLo_yes hlo (by omega) (by omega) (by show σ 68 (5 * k + 3) = σ 68 (5 * first + 3); omega) hokw hbit hq218) rfl
      exact hL101 _ 0 σ (by omega) (fun _ _ _ => rfl) (hrb) (MLo_0) rfl
    · skip
      (exfalso; omega)
  · skip
    refine am_aload_n (x := 63) X (by rfl) dX10_ringsFrom_21 ?_
    refine am_get (v := σ 63 27) X 63 fl_X10_269 (by decide) sh_63 (by decide) (rfl) dX10_ringsFrom_22 ?_
    refine am_if_lt (tgt := 64) X dX10_ringsFrom_25 (by decide) (fun h25 => ?_) (fun h25 => ?_)
    · skip
      refine am_ic X (by decide) dX10_ringsFrom_64 ?_
      refine am_goto (tgt := 69) X dX10_ringsFrom_65 (by decide) ?_
      refine am_istore (i := 5) (L' := [some (vr 63), some (vi (first : Int)), some (vi (last : Int)), some (vi bits), some (vi ow), some (vi 1), none]) X (Nat.le_of_ble_eq_true rfl) (by rfl) dX10_ringsFrom_69 ?_
      refine am_aload_n (x := 63) X (by rfl) dX10_ringsFrom_71 ?_
      refine am_iload (x := 1) X (by rfl) dX10_ringsFrom_72 ?_
      refine am_if_eq (tgt := 81) X dX10_ringsFrom_74 (by decide) (fun h => absurd h (by decide)) (fun _ => ?_)
      refine am_iload_n (x := bits) X (by rfl) dX10_ringsFrom_77 ?_
      refine am_goto (tgt := 85) X dX10_ringsFrom_78 (by decide) ?_
      refine am_puti X 63 fl_X10_269 rfl rfl sh_63 (by decide) dX10_ringsFrom_85 ?_
      exact hret _ _ _ _ dX10_ringsFrom_88 rfl rfl (⟨rfl, fun c k h => am_up_k (by omega), MFo_cl (by omega) hvi (by rw [am_up_eq]; exact Or.inl ⟨hb, rg_bl_1 (by omega)⟩)⟩)
    · skip
      refine am_iload_n (x := bits) X (by rfl) dX10_ringsFrom_28 ?_
      refine am_callSi X hY lk_X10_272 mf_X10_bitsOf (m_X10_bitsOf σ bits s hb hs.2) (by decide) (by decide) (Nat.le_refl _) (Nat.le_refl _) rfl rfl (Nat.le_of_ble_eq_true rfl) dX10_ringsFrom_29 (fun r29 sh29 σ29 hr29 hp29 => ?_)
      obtain ⟨rfl, rfl, hq29⟩ := hp29
      refine am_aload_n (x := 63) X (by rfl) dX10_ringsFrom_32 ?_
      refine am_get (v := σ 63 27) X 63 fl_X10_269 (by decide) sh_63 (by decide) (rfl) dX10_ringsFrom_33 ?_
      refine am_callSi X hY lk_X10_272 mf_X10_bitsOf (m_X10_bitsOf σ (σ 63 27) (σ 63 27).toNat (by omega) (by omega)) (by decide) (by decide) (Nat.le_refl _) (Nat.le_refl _) rfl rfl (Nat.le_of_ble_eq_true rfl) dX10_ringsFrom_36 (fun r36 sh36 σ36 hr36 hp36 => ?_)
      obtain ⟨rfl, rfl, hq36⟩ := hp36
      refine am_icmp_lt (tgt := 64) X dX10_ringsFrom_39 (by decide) (fun h39 => ?_) (fun h39 => ?_)
      · skip
        refine am_ic X (by decide) dX10_ringsFrom_64 ?_
        refine am_goto (tgt := 69) X dX10_ringsFrom_65 (by decide) ?_
        refine am_istore (i := 5) (L' := [some (vr 63), some (vi (first : Int)), some (vi (last : Int)), some (vi bits), some (vi ow), some (vi 1), none]) X (Nat.le_of_ble_eq_true rfl) (by rfl) dX10_ringsFrom_69 ?_
        refine am_aload_n (x := 63) X (by rfl) dX10_ringsFrom_71 ?_
        refine am_iload (x := 1) X (by rfl) dX10_ringsFrom_72 ?_
        refine am_if_eq (tgt := 81) X dX10_ringsFrom_74 (by decide) (fun h => absurd h (by decide)) (fun _ => ?_)
        refine am_iload_n (x := bits) X (by rfl) dX10_ringsFrom_77 ?_
        refine am_goto (tgt := 85) X dX10_ringsFrom_78 (by decide) ?_
        refine am_puti X 63 fl_X10_269 rfl rfl sh_63 (by decide) dX10_ringsFrom_85 ?_
        exact hret _ _ _ _ dX10_ringsFrom_88 rfl rfl (⟨rfl, fun c k h => am_up_k (by omega), MFo_cl (by omega) hvi (by rw [am_up_eq]; exact Or.inl ⟨hb, rg_bl_1 (by omega)⟩)⟩)
      · skip
        refine am_iload_n (x := bits) X (by rfl) dX10_ringsFrom_42 ?_
        refine am_callSi X hY lk_X10_272 mf_X10_bitsOf (m_X10_bitsOf σ bits s hb hs.2) (by decide) (by decide) (Nat.le_refl _) (Nat.le_refl _) rfl rfl (Nat.le_of_ble_eq_true rfl) dX10_ringsFrom_43 (fun r43 sh43 σ43 hr43 hp43 => ?_)
        obtain ⟨rfl, rfl, hq43⟩ := hp43
        refine am_aload_n (x := 63) X (by rfl) dX10_ringsFrom_46 ?_
        refine am_get (v := σ 63 27) X 63 fl_X10_269 (by decide) sh_63 (by decide) (rfl) dX10_ringsFrom_47 ?_
        refine am_callSi X hY lk_X10_272 mf_X10_bitsOf (m_X10_bitsOf σ (σ 63 27) (σ 63 27).toNat (by omega) (by omega)) (by decide) (by decide) (Nat.le_refl _) (Nat.le_refl _) rfl rfl (Nat.le_of_ble_eq_true rfl) dX10_ringsFrom_50 (fun r50 sh50 σ50 hr50 hp50 => ?_)
        obtain ⟨rfl, rfl, hq50⟩ := hp50
        refine am_icmp_ne (tgt := 68) X dX10_ringsFrom_53 (by decide) (fun h53 => ?_) (fun h53 => ?_)
        · skip
          refine am_ic X (by decide) dX10_ringsFrom_68 ?_
          refine am_istore (i := 5) (L' := [some (vr 63), some (vi (first : Int)), some (vi (last : Int)), some (vi bits), some (vi ow), some (vi 0), none]) X (Nat.le_of_ble_eq_true rfl) (by rfl) dX10_ringsFrom_69 ?_
          refine am_aload_n (x := 63) X (by rfl) dX10_ringsFrom_71 ?_
          refine am_iload (x := 0) X (by rfl) dX10_ringsFrom_72 ?_
          refine am_if_eq (tgt := 81) X dX10_ringsFrom_74 (by decide) (fun _ => ?_) (fun h => absurd h (by decide))
          refine am_aload_n (x := 63) X (by rfl) dX10_ringsFrom_81 ?_
          refine am_get (v := σ 63 27) X 63 fl_X10_269 (by decide) sh_63 (by decide) (rfl) dX10_ringsFrom_82 ?_
          refine am_puti X 63 fl_X10_269 rfl rfl sh_63 (by decide) dX10_ringsFrom_85 ?_
          exact hret _ _ _ _ dX10_ringsFrom_88 rfl rfl (⟨rfl, fun c k h => am_up_k (by omega), MFo_cl (by omega) hvi (by rw [am_up_eq]; exact Or.inr ⟨rfl, rg_bl_2 (by omega)⟩)⟩)
        · skip
          refine am_iload_n (x := bits) X (by rfl) dX10_ringsFrom_56 ?_
          refine am_aload_n (x := 63) X (by rfl) dX10_ringsFrom_57 ?_
          refine am_get (v := σ 63 27) X 63 fl_X10_269 (by decide) sh_63 (by decide) (rfl) dX10_ringsFrom_58 ?_
          refine am_icmp_ge (tgt := 68) X dX10_ringsFrom_61 (by decide) (fun h61 => ?_) (fun h61 => ?_)
          · skip
            refine am_ic X (by decide) dX10_ringsFrom_68 ?_
            refine am_istore (i := 5) (L' := [some (vr 63), some (vi (first : Int)), some (vi (last : Int)), some (vi bits), some (vi ow), some (vi 0), none]) X (Nat.le_of_ble_eq_true rfl) (by rfl) dX10_ringsFrom_69 ?_
            refine am_aload_n (x := 63) X (by rfl) dX10_ringsFrom_71 ?_
            refine am_iload (x := 0) X (by rfl) dX10_ringsFrom_72 ?_
            refine am_if_eq (tgt := 81) X dX10_ringsFrom_74 (by decide) (fun _ => ?_) (fun h => absurd h (by decide))
            refine am_aload_n (x := 63) X (by rfl) dX10_ringsFrom_81 ?_
            refine am_get (v := σ 63 27) X 63 fl_X10_269 (by decide) sh_63 (by decide) (rfl) dX10_ringsFrom_82 ?_
            refine am_puti X 63 fl_X10_269 rfl rfl sh_63 (by decide) dX10_ringsFrom_85 ?_
            exact hret _ _ _ _ dX10_ringsFrom_88 rfl rfl (⟨rfl, fun c k h => am_up_k (by omega), MFo_cl (by omega) hvi (by rw [am_up_eq]; exact Or.inr ⟨rfl, rg_bl_2 (by omega)⟩)⟩)
          · skip
            refine am_ic X (by decide) dX10_ringsFrom_64 ?_
            refine am_goto (tgt := 69) X dX10_ringsFrom_65 (by decide) ?_
            refine am_istore (i := 5) (L' := [some (vr 63), some (vi (first : Int)), some (vi (last : Int)), some (vi bits), some (vi ow), some (vi 1), none]) X (Nat.le_of_ble_eq_true rfl) (by rfl) dX10_ringsFrom_69 ?_
            refine am_aload_n (x := 63) X (by rfl) dX10_ringsFrom_71 ?_
            refine am_iload (x := 1) X (by rfl) dX10_ringsFrom_72 ?_
            refine am_if_eq (tgt := 81) X dX10_ringsFrom_74 (by decide) (fun h => absurd h (by decide)) (fun _ => ?_)
            refine am_iload_n (x := bits) X (by rfl) dX10_ringsFrom_77 ?_
            refine am_goto (tgt := 85) X dX10_ringsFrom_78 (by decide) ?_
            refine am_puti X 63 fl_X10_269 rfl rfl sh_63 (by decide) dX10_ringsFrom_85 ?_
            exact hret _ _ _ _ dX10_ringsFrom_88 rfl rfl (⟨rfl, fun c k h => am_up_k (by omega), MFo_cl (by omega) hvi (by rw [am_up_eq]; exact Or.inl ⟨hb, rg_bl_1 (by omega)⟩)⟩)

set_option maxHeartbeats 4000000 in
set_option maxRecDepth 100000 in
theorem m_X10_ringsFrom_3 (σ : am_H) (first last s v : Nat) (bits ow : Int) (hb : bits = (s : Int)) (ho : ow = (v : Int)) (hs : 0 < s ∧ s < 1048576) (hv : v < 256) (hf : (first : Int) < σ 63 7) (hl : (last : Int) < σ 63 7) (hrb : σ 63 27 < 1048576) (hp : 0 ≤ σ 63 6 ∧ σ 63 6 ≤ 8) (hc : 0 ≤ σ 63 7 ∧ σ 63 7 ≤ 20) (hdeb : MdeV σ) (hvi : MVi σ first s v) (hpc : rg_pc 20 s + 3 = 5) : am_Mv yX10_ringsFrom cX10_ringsFrom 7 none 6 0 0 [vr 63, vi (first : Int), vi (last : Int), vi bits, vi ow] SH σ (fun sh' σ' => SH = sh' ∧ md_frr σ σ' ∧ MFo σ 3 first last s v (σ 63 27) (σ' 63 27)) := by
  refine am_Mv_of (by decide +kernel) (Nat.le_of_ble_eq_true rfl) (fun K X hY hI hret => ?_)
  show am_G K 0 [some (vr 63), some (vi (first : Int)), some (vi (last : Int)), some (vi bits), some (vi ow), none, none] [] SH σ
  have hdl := hdeb last hl
  have hdf := hdeb first hf
  have hpw : m_w σ last < 8 := by unfold m_w; omega
  have hpi : σ 68 (5 * last + 1) = (m_w σ last : Int) := by unfold m_w; omega
  have hofi : σ 68 (5 * first) = (m_o σ first : Int) := by unfold m_o; omega
  obtain ⟨hv1, hv2, hv3⟩ := rg_orv ho hv hpw hpi
  refine am_aload_n (x := 63) X (by rfl) dX10_ringsFrom_0 ?_
  refine am_getr (c1 := 68) X 63 fl_X10_22 (by decide) sh_63 (by decide) (by rfl) dX10_ringsFrom_1 ?_
  refine am_ic X (by decide) dX10_ringsFrom_4 ?_
  refine am_iload_n (x := (last : Int)) X (by rfl) dX10_ringsFrom_5 ?_
  refine am_mul (v := (5 * (last : Int))) X (by first | rfl | omega) (by omega) dX10_ringsFrom_6 ?_
  refine am_ic X (by decide) dX10_ringsFrom_7 ?_
  refine am_add (v := ((5 * (last : Int)) + 1)) X (by first | rfl | omega) (by omega) dX10_ringsFrom_8 ?_
  refine am_ald (v := σ 68 ((5 * last) + 1)) X 68 ((5 * last) + 1) sh_68 (by omega) (by omega) (rfl) dX10_ringsFrom_9 ?_
  refine am_aload_n (x := 63) X (by rfl) dX10_ringsFrom_10 ?_
  refine am_getr (c1 := 68) X 63 fl_X10_22 (by decide) sh_63 (by decide) (by rfl) dX10_ringsFrom_11 ?_
  refine am_ic X (by decide) dX10_ringsFrom_14 ?_
  refine am_iload_n (x := (first : Int)) X (by rfl) dX10_ringsFrom_15 ?_
  refine am_mul (v := (5 * (first : Int))) X (by first | rfl | omega) (by omega) dX10_ringsFrom_16 ?_
  refine am_ald (v := σ 68 (5 * first)) X 68 (5 * first) sh_68 (by omega) (by omega) (rfl) dX10_ringsFrom_17 ?_
  refine am_icmp_ne (tgt := 89) X dX10_ringsFrom_18 (by decide) (fun h18 => ?_) (fun h18 => ?_)
  · skip
    refine am_iload_n (x := bits) X (by rfl) dX10_ringsFrom_89 ?_
    refine am_callSi X hY lk_X10_272 mf_X10_bitsOf (m_X10_bitsOf σ bits s hb hs.2) (by decide) (by decide) (Nat.le_refl _) (Nat.le_refl _) rfl rfl (Nat.le_of_ble_eq_true rfl) dX10_ringsFrom_90 (fun r90 sh90 σ90 hr90 hp90 => ?_)
    obtain ⟨rfl, rfl, hq90⟩ := hp90
    refine am_ic X (by decide) dX10_ringsFrom_93 ?_
    refine am_icmp_ne (tgt := 98) X dX10_ringsFrom_94 (by decide) (fun h94 => ?_) (fun h94 => ?_)
    · skip
      refine am_ic X (by decide) dX10_ringsFrom_98 ?_
      refine am_istore (i := 5) (L' := [some (vr 63), some (vi (first : Int)), some (vi (last : Int)), some (vi bits), some (vi ow), some (vi 0), none]) X (Nat.le_of_ble_eq_true rfl) (by rfl) dX10_ringsFrom_99 ?_
      have hL101 : ∀ (m101 : Nat) (k : Nat) (τ : am_H) (hk : (k : Int) ≤ σ 63 7) (hfr : md_frr σ τ) (htb : τ 63 27 < 1048576) (hlo : MLo σ 3 first last s v k (σ 63 27) (τ 63 27)) (hm101 : 20 - k = m101), am_G K 101 [some (vr 63), some (vi (first : Int)), some (vi (last : Int)), some (vi bits), some (vi ow), some (vi (k : Int)), none] [] SH τ := by
        intro m101
        induction m101 using Nat.strongRecOn with
        | ind m101 ih101 =>
        intro k τ hk hfr htb hlo hm101
        refine am_iload (x := (k : Int)) X (by rfl) dX10_ringsFrom_101 ?_
        refine am_aload_n (x := 63) X (by rfl) dX10_ringsFrom_103 ?_
        refine am_get (v := σ 63 7) X 63 fl_X10_111 (by decide) sh_63 (by decide) (hfr 63 7 (by decide)) dX10_ringsFrom_104 ?_
        refine am_icmp_ge (tgt := 227) X dX10_ringsFrom_107 (by decide) (fun h107 => ?_) (fun h107 => ?_)
        · skip
          exact hret _ _ _ _ dX10_ringsFrom_227 rfl rfl (⟨rfl, hfr, MFo_end (by rw [show (σ 63 7).toNat = k by omega]; exact hlo) (by omega)⟩)
        · skip
          have hdk := hdeb k (by omega)
          have hok : σ 68 (5 * k) = (m_o σ k : Int) := by unfold m_o; omega
          refine am_aload_n (x := 63) X (by rfl) dX10_ringsFrom_110 ?_
          refine am_iload (x := (k : Int)) X (by rfl) dX10_ringsFrom_111 ?_
          refine am_callVi (ci := 9) X hY lk_X10_240 mf_X10_isOpen (m_X10_isOpen (k : Int) k rfl (by omega) τ) (by decide) (by decide) (Nat.le_refl _) (Nat.le_refl _) sh_63 rfl rfl rfl (Nat.le_of_ble_eq_true rfl) dX10_ringsFrom_113 (fun r113 sh113 σ113 hr113 hp113 => ?_)
          obtain ⟨rfl, rfl, hq113⟩ := hp113
          rw [hfr 68 _ (Or.inl (by decide))] at hq113
          refine am_if_eq (tgt := 186) X dX10_ringsFrom_116 (by decide) (fun h116 => ?_) (fun h116 => ?_)
          · skip
            refine am_ic X (by decide) dX10_ringsFrom_186 ?_
            refine am_istore (i := 6) (L' := [some (vr 63), some (vi (first : Int)), some (vi (last : Int)), some (vi bits), some (vi ow), some (vi (k : Int)), some (vi 0)]) X (Nat.le_of_ble_eq_true rfl) (by rfl) dX10_ringsFrom_187 ?_
            
            refine am_iload (x := 0) X (by rfl) dX10_ringsFrom_189 ?_
            refine am_if_eq (tgt := 221) X dX10_ringsFrom_191 (by decide) (fun _ => ?_) (fun h => absurd h (by decide))
            refine am_inc (x := (k : Int)) (v := ((k : Int) + 1)) (L' := [some (vr 63), some (vi (first : Int)), some (vi (last : Int)), some (vi bits), some (vi ow), some (vi ((k : Int) + 1)), some (vi 0)]) X (by rfl) (by omega) (by omega) (by rfl) dX10_ringsFrom_221 ?_
            refine am_goto (tgt := 101) X dX10_ringsFrom_224 (by decide) ?_
            refine am_fg [true, true, true, true, true, true, false] rfl (L' := [some (vr 63), some (vi (first : Int)), some (vi (last : Int)), some (vi bits), some (vi ow), some (vi ((k : Int) + 1)), none]) rfl ?_
            exact ih101 _ (by omega) (k + 1) τ (by omega) (hfr) (htb) (MLo_no hlo (fun q => by have q4 := q.2.2.2; have q3 := q.2.2.1; have q2 : σ 68 (5 * k + 3) = σ 68 (5 * first + 3) := q.2.1; have q1 := q.1; first | omega | (have h1 : σ 68 (5 * k) = σ 68 (5 * last + 1) := (by omega); rw [h1, hv3, q4] at h179; exact absurd h179 (by decide)))) rfl
          · skip
            refine am_aload_n (x := 63) X (by rfl) dX10_ringsFrom_119 ?_
            refine am_getr (c1 := 68) X 63 fl_X10_22 (by decide) sh_63 (by decide) (by rfl) dX10_ringsFrom_120 ?_
            refine am_ic X (by decide) dX10_ringsFrom_123 ?_
            refine am_iload (x := (k : Int)) X (by rfl) dX10_ringsFrom_124 ?_
            refine am_mul (v := (5 * (k : Int))) X (by first | rfl | omega) (by omega) dX10_ringsFrom_126 ?_
            refine am_ic X (by decide) dX10_ringsFrom_127 ?_
            refine am_add (v := ((5 * (k : Int)) + 3)) X (by first | rfl | omega) (by omega) dX10_ringsFrom_128 ?_
            refine am_ald (v := σ 68 ((5 * k) + 3)) X 68 ((5 * k) + 3) sh_68 (by omega) (by omega) (hfr 68 ((5 * k) + 3) (Or.inl (by decide))) dX10_ringsFrom_129 ?_
            refine am_aload_n (x := 63) X (by rfl) dX10_ringsFrom_130 ?_
            refine am_getr (c1 := 68) X 63 fl_X10_22 (by decide) sh_63 (by decide) (by rfl) dX10_ringsFrom_131 ?_
            refine am_ic X (by decide) dX10_ringsFrom_134 ?_
            refine am_iload_n (x := (first : Int)) X (by rfl) dX10_ringsFrom_135 ?_
            refine am_mul (v := (5 * (first : Int))) X (by first | rfl | omega) (by omega) dX10_ringsFrom_136 ?_
            refine am_ic X (by decide) dX10_ringsFrom_137 ?_
            refine am_add (v := ((5 * (first : Int)) + 3)) X (by first | rfl | omega) (by omega) dX10_ringsFrom_138 ?_
            refine am_ald (v := σ 68 ((5 * first) + 3)) X 68 ((5 * first) + 3) sh_68 (by omega) (by omega) (hfr 68 ((5 * first) + 3) (Or.inl (by decide))) dX10_ringsFrom_139 ?_
            refine am_icmp_ne (tgt := 186) X dX10_ringsFrom_140 (by decide) (fun h140 => ?_) (fun h140 => ?_)
            · skip
              refine am_ic X (by decide) dX10_ringsFrom_186 ?_
              refine am_istore (i := 6) (L' := [some (vr 63), some (vi (first : Int)), some (vi (last : Int)), some (vi bits), some (vi ow), some (vi (k : Int)), some (vi 0)]) X (Nat.le_of_ble_eq_true rfl) (by rfl) dX10_ringsFrom_187 ?_
              
              refine am_iload (x := 0) X (by rfl) dX10_ringsFrom_189 ?_
              refine am_if_eq (tgt := 221) X dX10_ringsFrom_191 (by decide) (fun _ => ?_) (fun h => absurd h (by decide))
              refine am_inc (x := (k : Int)) (v := ((k : Int) + 1)) (L' := [some (vr 63), some (vi (first : Int)), some (vi (last : Int)), some (vi bits), some (vi ow), some (vi ((k : Int) + 1)), some (vi 0)]) X (by rfl) (by omega) (by omega) (by rfl) dX10_ringsFrom_221 ?_
              refine am_goto (tgt := 101) X dX10_ringsFrom_224 (by decide) ?_
              refine am_fg [true, true, true, true, true, true, false] rfl (L' := [some (vr 63), some (vi (first : Int)), some (vi (last : Int)), some (vi bits), some (vi ow), some (vi ((k : Int) + 1)), none]) rfl ?_
              exact ih101 _ (by omega) (k + 1) τ (by omega) (hfr) (htb) (MLo_no hlo (fun q => by have q4 := q.2.2.2; have q3 := q.2.2.1; have q2 : σ 68 (5 * k + 3) = σ 68 (5 * first + 3) := q.2.1; have q1 := q.1; first | omega | (have h1 : σ 68 (5 * k) = σ 68 (5 * last + 1) := (by omega); rw [h1, hv3, q4] at h179; exact absurd h179 (by decide)))) rfl
            · skip
              refine am_aload_n (x := 63) X (by rfl) dX10_ringsFrom_143 ?_
              refine am_getr (c1 := 68) X 63 fl_X10_22 (by decide) sh_63 (by decide) (by rfl) dX10_ringsFrom_144 ?_
              refine am_ic X (by decide) dX10_ringsFrom_147 ?_
              refine am_iload (x := (k : Int)) X (by rfl) dX10_ringsFrom_148 ?_
              refine am_mul (v := (5 * (k : Int))) X (by first | rfl | omega) (by omega) dX10_ringsFrom_150 ?_
              refine am_ald (v := σ 68 (5 * k)) X 68 (5 * k) sh_68 (by omega) (by omega) (hfr 68 (5 * k) (Or.inl (by decide))) dX10_ringsFrom_151 ?_
              refine am_aload_n (x := 63) X (by rfl) dX10_ringsFrom_152 ?_
              refine am_getr (c1 := 68) X 63 fl_X10_22 (by decide) sh_63 (by decide) (by rfl) dX10_ringsFrom_153 ?_
              refine am_ic X (by decide) dX10_ringsFrom_156 ?_
              refine am_iload_n (x := (last : Int)) X (by rfl) dX10_ringsFrom_157 ?_
              refine am_mul (v := (5 * (last : Int))) X (by first | rfl | omega) (by omega) dX10_ringsFrom_158 ?_
              refine am_ic X (by decide) dX10_ringsFrom_159 ?_
              refine am_add (v := ((5 * (last : Int)) + 1)) X (by first | rfl | omega) (by omega) dX10_ringsFrom_160 ?_
              refine am_ald (v := σ 68 ((5 * last) + 1)) X 68 ((5 * last) + 1) sh_68 (by omega) (by omega) (hfr 68 ((5 * last) + 1) (Or.inl (by decide))) dX10_ringsFrom_161 ?_
              refine am_icmp_ne (tgt := 186) X dX10_ringsFrom_162 (by decide) (fun h162 => ?_) (fun h162 => ?_)
              · skip
                refine am_ic X (by decide) dX10_ringsFrom_186 ?_
                refine am_istore (i := 6) (L' := [some (vr 63), some (vi (first : Int)), some (vi (last : Int)), some (vi bits), some (vi ow), some (vi (k : Int)), some (vi 0)]) X (Nat.le_of_ble_eq_true rfl) (by rfl) dX10_ringsFrom_187 ?_
                
                refine am_iload (x := 0) X (by rfl) dX10_ringsFrom_189 ?_
                refine am_if_eq (tgt := 221) X dX10_ringsFrom_191 (by decide) (fun _ => ?_) (fun h => absurd h (by decide))
                refine am_inc (x := (k : Int)) (v := ((k : Int) + 1)) (L' := [some (vr 63), some (vi (first : Int)), some (vi (last : Int)), some (vi bits), some (vi ow), some (vi ((k : Int) + 1)), some (vi 0)]) X (by rfl) (by omega) (by omega) (by rfl) dX10_ringsFrom_221 ?_
                refine am_goto (tgt := 101) X dX10_ringsFrom_224 (by decide) ?_
                refine am_fg [true, true, true, true, true, true, false] rfl (L' := [some (vr 63), some (vi (first : Int)), some (vi (last : Int)), some (vi bits), some (vi ow), some (vi ((k : Int) + 1)), none]) rfl ?_
                exact ih101 _ (by omega) (k + 1) τ (by omega) (hfr) (htb) (MLo_no hlo (fun q => by have q4 := q.2.2.2; have q3 := q.2.2.1; have q2 : σ 68 (5 * k + 3) = σ 68 (5 * first + 3) := q.2.1; have q1 := q.1; first | omega | (have h1 : σ 68 (5 * k) = σ 68 (5 * last + 1) := (by omega); rw [h1, hv3, q4] at h179; exact absurd h179 (by decide)))) rfl
              · skip
                refine am_iload (x := ow) X (by rfl) dX10_ringsFrom_165 ?_
                refine am_aload_n (x := 63) X (by rfl) dX10_ringsFrom_167 ?_
                refine am_getr (c1 := 68) X 63 fl_X10_22 (by decide) sh_63 (by decide) (by rfl) dX10_ringsFrom_168 ?_
                refine am_ic X (by decide) dX10_ringsFrom_171 ?_
                refine am_iload (x := (k : Int)) X (by rfl) dX10_ringsFrom_172 ?_
                refine am_mul (v := (5 * (k : Int))) X (by first | rfl | omega) (by omega) dX10_ringsFrom_174 ?_
                refine am_ald (v := σ 68 (5 * k)) X 68 (5 * k) sh_68 (by omega) (by omega) (hfr 68 (5 * k) (Or.inl (by decide))) dX10_ringsFrom_175 ?_
                refine am_ishr X dX10_ringsFrom_176 ?_
                refine am_ic X (by decide) dX10_ringsFrom_177 ?_
                refine am_iand X dX10_ringsFrom_178 ?_
                refine am_if_ne (tgt := 186) X dX10_ringsFrom_179 (by decide) (fun h179 => ?_) (fun h179 => ?_)
                · skip
                  refine am_ic X (by decide) dX10_ringsFrom_186 ?_
                  refine am_istore (i := 6) (L' := [some (vr 63), some (vi (first : Int)), some (vi (last : Int)), some (vi bits), some (vi ow), some (vi (k : Int)), some (vi 0)]) X (Nat.le_of_ble_eq_true rfl) (by rfl) dX10_ringsFrom_187 ?_
                  
                  refine am_iload (x := 0) X (by rfl) dX10_ringsFrom_189 ?_
                  refine am_if_eq (tgt := 221) X dX10_ringsFrom_191 (by decide) (fun _ => ?_) (fun h => absurd h (by decide))
                  refine am_inc (x := (k : Int)) (v := ((k : Int) + 1)) (L' := [some (vr 63), some (vi (first : Int)), some (vi (last : Int)), some (vi bits), some (vi ow), some (vi ((k : Int) + 1)), some (vi 0)]) X (by rfl) (by omega) (by omega) (by rfl) dX10_ringsFrom_221 ?_
                  refine am_goto (tgt := 101) X dX10_ringsFrom_224 (by decide) ?_
                  refine am_fg [true, true, true, true, true, true, false] rfl (L' := [some (vr 63), some (vi (first : Int)), some (vi (last : Int)), some (vi bits), some (vi ow), some (vi ((k : Int) + 1)), none]) rfl ?_
                  exact ih101 _ (by omega) (k + 1) τ (by omega) (hfr) (htb) (MLo_no hlo (fun q => by have q4 := q.2.2.2; have q3 := q.2.2.1; have q2 : σ 68 (5 * k + 3) = σ 68 (5 * first + 3) := q.2.1; have q1 := q.1; first | omega | (have h1 : σ 68 (5 * k) = σ 68 (5 * last + 1) := (by omega); rw [h1, hv3, q4] at h179; exact absurd h179 (by decide)))) rfl
                · skip
                  refine am_ic X (by decide) dX10_ringsFrom_182 ?_
                  refine am_goto (tgt := 187) X dX10_ringsFrom_183 (by decide) ?_
                  refine am_istore (i := 6) (L' := [some (vr 63), some (vi (first : Int)), some (vi (last : Int)), some (vi bits), some (vi ow), some (vi (k : Int)), some (vi 1)]) X (Nat.le_of_ble_eq_true rfl) (by rfl) dX10_ringsFrom_187 ?_
                  
                  refine am_iload (x := 1) X (by rfl) dX10_ringsFrom_189 ?_
                  refine am_if_eq (tgt := 221) X dX10_ringsFrom_191 (by decide) (fun h => absurd h (by decide)) (fun _ => ?_)
                  have hbit : v.testBit (m_w σ last) = false := by
                    have h1 : σ 68 (5 * k) = σ 68 (5 * last + 1) := by omega
                    rw [h1, hv3] at h179
                    cases e : v.testBit (m_w σ last)
                    · rfl
                    · rw [e] at h179; exact absurd h179 (by decide)
                  have hokw : m_o σ k = m_w σ last := by omega
                  have hsk := rg_orl hb hs.2 (k := k) (by omega) (i := (k : Int)) rfl
                  have hvk := rg_orv ho hv (p := m_o σ k) (by omega) hok
                  have hmv := MVi_s hvi hokw hbit
                  refine am_aload_n (x := 63) X (by rfl) dX10_ringsFrom_194 ?_
                  refine am_iload_n (x := (first : Int)) X (by rfl) dX10_ringsFrom_195 ?_
                  refine am_iload (x := (k : Int)) X (by rfl) dX10_ringsFrom_196 ?_
                  refine am_iload_n (x := bits) X (by rfl) dX10_ringsFrom_198 ?_
                  refine am_ic X (by decide) dX10_ringsFrom_199 ?_
                  refine am_iload (x := (k : Int)) X (by rfl) dX10_ringsFrom_200 ?_
                  refine am_ishl X dX10_ringsFrom_202 ?_
                  refine am_ior X dX10_ringsFrom_203 ?_
                  refine am_iload (x := ow) X (by rfl) dX10_ringsFrom_204 ?_
                  refine am_ic X (by decide) dX10_ringsFrom_206 ?_
                  refine am_aload_n (x := 63) X (by rfl) dX10_ringsFrom_207 ?_
                  refine am_getr (c1 := 68) X 63 fl_X10_22 (by decide) sh_63 (by decide) (by rfl) dX10_ringsFrom_208 ?_
                  refine am_ic X (by decide) dX10_ringsFrom_211 ?_
                  refine am_iload (x := (k : Int)) X (by rfl) dX10_ringsFrom_212 ?_
                  refine am_mul (v := (5 * (k : Int))) X (by first | rfl | omega) (by omega) dX10_ringsFrom_214 ?_
                  refine am_ald (v := σ 68 (5 * k)) X 68 (5 * k) sh_68 (by omega) (by omega) (hfr 68 (5 * k) (Or.inl (by decide))) dX10_ringsFrom_215 ?_
                  refine am_ishl X dX10_ringsFrom_216 ?_
                  refine am_ior X dX10_ringsFrom_217 ?_
                  refine am_callVv (ci := 9) X hY lk_X10_275 mf_X10_ringsFrom (m_X10_ringsFrom_2 τ first k (s ||| 2 ^ k) (v ||| 2 ^ m_o σ k) (am_or bits (am_shl 1 (k : Int))) (am_or ow (am_shl 1 (σ 68 (5 * k)))) hsk.1 hvk.1 ⟨Nat.lt_of_lt_of_le hs.1 Nat.left_le_or, hsk.2⟩ hvk.2.1 (by rw [hfr 63 7 (by decide)]; exact hf) (by rw [hfr 63 7 (by decide)]; omega) htb (by rw [hfr 63 6 (by decide)]; exact hp) (by rw [hfr 63 7 (by decide)]; exact hc) (md_deb_frr hfr hdeb) (MVi_fr hfr hmv.1) (rg_pc_s (by omega) hmv.2 hpc)) (by decide) (by decide) (Nat.le_refl _) (Nat.le_refl _) sh_63 rfl rfl rfl (Nat.le_of_ble_eq_true rfl) dX10_ringsFrom_218 (fun sh218 σ218 hp218 => ?_)
                  obtain ⟨rfl, hf218, hq218⟩ := hp218
                  have hq218 := MFo_fr hfr hq218
                  refine am_inc (x := (k : Int)) (v := ((k : Int) + 1)) (L' := [some (vr 63), some (vi (first : Int)), some (vi (last : Int)), some (vi bits), some (vi ow), some (vi ((k : Int) + 1)), some (vi 1)]) X (by rfl) (by omega) (by omega) (by rfl) dX10_ringsFrom_221 ?_
                  refine am_goto (tgt := 101) X dX10_ringsFrom_224 (by decide) ?_
                  refine am_fg [true, true, true, true, true, true, false] rfl (L' := [some (vr 63), some (vi (first : Int)), some (vi (last : Int)), some (vi bits), some (vi ow), some (vi ((k : Int) + 1)), none]) rfl ?_
                  exact ih101 _ (by omega) (k + 1) σ218 (by omega) (fun c j h => (hf218 c j h).trans (hfr c j h)) (by exact MFo_bd hq218 hsk.2 htb (by omega)) (MLo_yes hlo (by omega) (by omega) (by show σ 68 (5 * k + 3) = σ 68 (5 * first + 3); omega) hokw hbit hq218) rfl
      exact hL101 _ 0 σ (by omega) (fun _ _ _ => rfl) (hrb) (MLo_0) rfl
    · skip
      (exfalso; omega)
  · skip
    refine am_aload_n (x := 63) X (by rfl) dX10_ringsFrom_21 ?_
    refine am_get (v := σ 63 27) X 63 fl_X10_269 (by decide) sh_63 (by decide) (rfl) dX10_ringsFrom_22 ?_
    refine am_if_lt (tgt := 64) X dX10_ringsFrom_25 (by decide) (fun h25 => ?_) (fun h25 => ?_)
    · skip
      refine am_ic X (by decide) dX10_ringsFrom_64 ?_
      refine am_goto (tgt := 69) X dX10_ringsFrom_65 (by decide) ?_
      refine am_istore (i := 5) (L' := [some (vr 63), some (vi (first : Int)), some (vi (last : Int)), some (vi bits), some (vi ow), some (vi 1), none]) X (Nat.le_of_ble_eq_true rfl) (by rfl) dX10_ringsFrom_69 ?_
      refine am_aload_n (x := 63) X (by rfl) dX10_ringsFrom_71 ?_
      refine am_iload (x := 1) X (by rfl) dX10_ringsFrom_72 ?_
      refine am_if_eq (tgt := 81) X dX10_ringsFrom_74 (by decide) (fun h => absurd h (by decide)) (fun _ => ?_)
      refine am_iload_n (x := bits) X (by rfl) dX10_ringsFrom_77 ?_
      refine am_goto (tgt := 85) X dX10_ringsFrom_78 (by decide) ?_
      refine am_puti X 63 fl_X10_269 rfl rfl sh_63 (by decide) dX10_ringsFrom_85 ?_
      exact hret _ _ _ _ dX10_ringsFrom_88 rfl rfl (⟨rfl, fun c k h => am_up_k (by omega), MFo_cl (by omega) hvi (by rw [am_up_eq]; exact Or.inl ⟨hb, rg_bl_1 (by omega)⟩)⟩)
    · skip
      refine am_iload_n (x := bits) X (by rfl) dX10_ringsFrom_28 ?_
      refine am_callSi X hY lk_X10_272 mf_X10_bitsOf (m_X10_bitsOf σ bits s hb hs.2) (by decide) (by decide) (Nat.le_refl _) (Nat.le_refl _) rfl rfl (Nat.le_of_ble_eq_true rfl) dX10_ringsFrom_29 (fun r29 sh29 σ29 hr29 hp29 => ?_)
      obtain ⟨rfl, rfl, hq29⟩ := hp29
      refine am_aload_n (x := 63) X (by rfl) dX10_ringsFrom_32 ?_
      refine am_get (v := σ 63 27) X 63 fl_X10_269 (by decide) sh_63 (by decide) (rfl) dX10_ringsFrom_33 ?_
      refine am_callSi X hY lk_X10_272 mf_X10_bitsOf (m_X10_bitsOf σ (σ 63 27) (σ 63 27).toNat (by omega) (by omega)) (by decide) (by decide) (Nat.le_refl _) (Nat.le_refl _) rfl rfl (Nat.le_of_ble_eq_true rfl) dX10_ringsFrom_36 (fun r36 sh36 σ36 hr36 hp36 => ?_)
      obtain ⟨rfl, rfl, hq36⟩ := hp36
      refine am_icmp_lt (tgt := 64) X dX10_ringsFrom_39 (by decide) (fun h39 => ?_) (fun h39 => ?_)
      · skip
        refine am_ic X (by decide) dX10_ringsFrom_64 ?_
        refine am_goto (tgt := 69) X dX10_ringsFrom_65 (by decide) ?_
        refine am_istore (i := 5) (L' := [some (vr 63), some (vi (first : Int)), some (vi (last : Int)), some (vi bits), some (vi ow), some (vi 1), none]) X (Nat.le_of_ble_eq_true rfl) (by rfl) dX10_ringsFrom_69 ?_
        refine am_aload_n (x := 63) X (by rfl) dX10_ringsFrom_71 ?_
        refine am_iload (x := 1) X (by rfl) dX10_ringsFrom_72 ?_
        refine am_if_eq (tgt := 81) X dX10_ringsFrom_74 (by decide) (fun h => absurd h (by decide)) (fun _ => ?_)
        refine am_iload_n (x := bits) X (by rfl) dX10_ringsFrom_77 ?_
        refine am_goto (tgt := 85) X dX10_ringsFrom_78 (by decide) ?_
        refine am_puti X 63 fl_X10_269 rfl rfl sh_63 (by decide) dX10_ringsFrom_85 ?_
        exact hret _ _ _ _ dX10_ringsFrom_88 rfl rfl (⟨rfl, fun c k h => am_up_k (by omega), MFo_cl (by omega) hvi (by rw [am_up_eq]; exact Or.inl ⟨hb, rg_bl_1 (by omega)⟩)⟩)
      · skip
        refine am_iload_n (x := bits) X (by rfl) dX10_ringsFrom_42 ?_
        refine am_callSi X hY lk_X10_272 mf_X10_bitsOf (m_X10_bitsOf σ bits s hb hs.2) (by decide) (by decide) (Nat.le_refl _) (Nat.le_refl _) rfl rfl (Nat.le_of_ble_eq_true rfl) dX10_ringsFrom_43 (fun r43 sh43 σ43 hr43 hp43 => ?_)
        obtain ⟨rfl, rfl, hq43⟩ := hp43
        refine am_aload_n (x := 63) X (by rfl) dX10_ringsFrom_46 ?_
        refine am_get (v := σ 63 27) X 63 fl_X10_269 (by decide) sh_63 (by decide) (rfl) dX10_ringsFrom_47 ?_
        refine am_callSi X hY lk_X10_272 mf_X10_bitsOf (m_X10_bitsOf σ (σ 63 27) (σ 63 27).toNat (by omega) (by omega)) (by decide) (by decide) (Nat.le_refl _) (Nat.le_refl _) rfl rfl (Nat.le_of_ble_eq_true rfl) dX10_ringsFrom_50 (fun r50 sh50 σ50 hr50 hp50 => ?_)
        obtain ⟨rfl, rfl, hq50⟩ := hp50
        refine am_icmp_ne (tgt := 68) X dX10_ringsFrom_53 (by decide) (fun h53 => ?_) (fun h53 => ?_)
        · skip
          refine am_ic X (by decide) dX10_ringsFrom_68 ?_
          refine am_istore (i := 5) (L' := [some (vr 63), some (vi (first : Int)), some (vi (last : Int)), some (vi bits), some (vi ow), some (vi 0), none]) X (Nat.le_of_ble_eq_true rfl) (by rfl) dX10_ringsFrom_69 ?_
          refine am_aload_n (x := 63) X (by rfl) dX10_ringsFrom_71 ?_
          refine am_iload (x := 0) X (by rfl) dX10_ringsFrom_72 ?_
          refine am_if_eq (tgt := 81) X dX10_ringsFrom_74 (by decide) (fun _ => ?_) (fun h => absurd h (by decide))
          refine am_aload_n (x := 63) X (by rfl) dX10_ringsFrom_81 ?_
          refine am_get (v := σ 63 27) X 63 fl_X10_269 (by decide) sh_63 (by decide) (rfl) dX10_ringsFrom_82 ?_
          refine am_puti X 63 fl_X10_269 rfl rfl sh_63 (by decide) dX10_ringsFrom_85 ?_
          exact hret _ _ _ _ dX10_ringsFrom_88 rfl rfl (⟨rfl, fun c k h => am_up_k (by omega), MFo_cl (by omega) hvi (by rw [am_up_eq]; exact Or.inr ⟨rfl, rg_bl_2 (by omega)⟩)⟩)
        · skip
          refine am_iload_n (x := bits) X (by rfl) dX10_ringsFrom_56 ?_
          refine am_aload_n (x := 63) X (by rfl) dX10_ringsFrom_57 ?_
          refine am_get (v := σ 63 27) X 63 fl_X10_269 (by decide) sh_63 (by decide) (rfl) dX10_ringsFrom_58 ?_
          refine am_icmp_ge (tgt := 68) X dX10_ringsFrom_61 (by decide) (fun h61 => ?_) (fun h61 => ?_)
          · skip
            refine am_ic X (by decide) dX10_ringsFrom_68 ?_
            refine am_istore (i := 5) (L' := [some (vr 63), some (vi (first : Int)), some (vi (last : Int)), some (vi bits), some (vi ow), some (vi 0), none]) X (Nat.le_of_ble_eq_true rfl) (by rfl) dX10_ringsFrom_69 ?_
            refine am_aload_n (x := 63) X (by rfl) dX10_ringsFrom_71 ?_
            refine am_iload (x := 0) X (by rfl) dX10_ringsFrom_72 ?_
            refine am_if_eq (tgt := 81) X dX10_ringsFrom_74 (by decide) (fun _ => ?_) (fun h => absurd h (by decide))
            refine am_aload_n (x := 63) X (by rfl) dX10_ringsFrom_81 ?_
            refine am_get (v := σ 63 27) X 63 fl_X10_269 (by decide) sh_63 (by decide) (rfl) dX10_ringsFrom_82 ?_
            refine am_puti X 63 fl_X10_269 rfl rfl sh_63 (by decide) dX10_ringsFrom_85 ?_
            exact hret _ _ _ _ dX10_ringsFrom_88 rfl rfl (⟨rfl, fun c k h => am_up_k (by omega), MFo_cl (by omega) hvi (by rw [am_up_eq]; exact Or.inr ⟨rfl, rg_bl_2 (by omega)⟩)⟩)
          · skip
            refine am_ic X (by decide) dX10_ringsFrom_64 ?_
            refine am_goto (tgt := 69) X dX10_ringsFrom_65 (by decide) ?_
            refine am_istore (i := 5) (L' := [some (vr 63), some (vi (first : Int)), some (vi (last : Int)), some (vi bits), some (vi ow), some (vi 1), none]) X (Nat.le_of_ble_eq_true rfl) (by rfl) dX10_ringsFrom_69 ?_
            refine am_aload_n (x := 63) X (by rfl) dX10_ringsFrom_71 ?_
            refine am_iload (x := 1) X (by rfl) dX10_ringsFrom_72 ?_
            refine am_if_eq (tgt := 81) X dX10_ringsFrom_74 (by decide) (fun h => absurd h (by decide)) (fun _ => ?_)
            refine am_iload_n (x := bits) X (by rfl) dX10_ringsFrom_77 ?_
            refine am_goto (tgt := 85) X dX10_ringsFrom_78 (by decide) ?_
            refine am_puti X 63 fl_X10_269 rfl rfl sh_63 (by decide) dX10_ringsFrom_85 ?_
            exact hret _ _ _ _ dX10_ringsFrom_88 rfl rfl (⟨rfl, fun c k h => am_up_k (by omega), MFo_cl (by omega) hvi (by rw [am_up_eq]; exact Or.inl ⟨hb, rg_bl_1 (by omega)⟩)⟩)

set_option maxHeartbeats 4000000 in
set_option maxRecDepth 100000 in
theorem m_X10_ringsFrom_4 (σ : am_H) (first last s v : Nat) (bits ow : Int) (hb : bits = (s : Int)) (ho : ow = (v : Int)) (hs : 0 < s ∧ s < 1048576) (hv : v < 256) (hf : (first : Int) < σ 63 7) (hl : (last : Int) < σ 63 7) (hrb : σ 63 27 < 1048576) (hp : 0 ≤ σ 63 6 ∧ σ 63 6 ≤ 8) (hc : 0 ≤ σ 63 7 ∧ σ 63 7 ≤ 20) (hdeb : MdeV σ) (hvi : MVi σ first s v) (hpc : rg_pc 20 s + 4 = 5) : am_Mv yX10_ringsFrom cX10_ringsFrom 7 none 7 0 0 [vr 63, vi (first : Int), vi (last : Int), vi bits, vi ow] SH σ (fun sh' σ' => SH = sh' ∧ md_frr σ σ' ∧ MFo σ 4 first last s v (σ 63 27) (σ' 63 27)) := by
  refine am_Mv_of (by decide +kernel) (Nat.le_of_ble_eq_true rfl) (fun K X hY hI hret => ?_)
  show am_G K 0 [some (vr 63), some (vi (first : Int)), some (vi (last : Int)), some (vi bits), some (vi ow), none, none] [] SH σ
  have hdl := hdeb last hl
  have hdf := hdeb first hf
  have hpw : m_w σ last < 8 := by unfold m_w; omega
  have hpi : σ 68 (5 * last + 1) = (m_w σ last : Int) := by unfold m_w; omega
  have hofi : σ 68 (5 * first) = (m_o σ first : Int) := by unfold m_o; omega
  obtain ⟨hv1, hv2, hv3⟩ := rg_orv ho hv hpw hpi
  refine am_aload_n (x := 63) X (by rfl) dX10_ringsFrom_0 ?_
  refine am_getr (c1 := 68) X 63 fl_X10_22 (by decide) sh_63 (by decide) (by rfl) dX10_ringsFrom_1 ?_
  refine am_ic X (by decide) dX10_ringsFrom_4 ?_
  refine am_iload_n (x := (last : Int)) X (by rfl) dX10_ringsFrom_5 ?_
  refine am_mul (v := (5 * (last : Int))) X (by first | rfl | omega) (by omega) dX10_ringsFrom_6 ?_
  refine am_ic X (by decide) dX10_ringsFrom_7 ?_
  refine am_add (v := ((5 * (last : Int)) + 1)) X (by first | rfl | omega) (by omega) dX10_ringsFrom_8 ?_
  refine am_ald (v := σ 68 ((5 * last) + 1)) X 68 ((5 * last) + 1) sh_68 (by omega) (by omega) (rfl) dX10_ringsFrom_9 ?_
  refine am_aload_n (x := 63) X (by rfl) dX10_ringsFrom_10 ?_
  refine am_getr (c1 := 68) X 63 fl_X10_22 (by decide) sh_63 (by decide) (by rfl) dX10_ringsFrom_11 ?_
  refine am_ic X (by decide) dX10_ringsFrom_14 ?_
  refine am_iload_n (x := (first : Int)) X (by rfl) dX10_ringsFrom_15 ?_
  refine am_mul (v := (5 * (first : Int))) X (by first | rfl | omega) (by omega) dX10_ringsFrom_16 ?_
  refine am_ald (v := σ 68 (5 * first)) X 68 (5 * first) sh_68 (by omega) (by omega) (rfl) dX10_ringsFrom_17 ?_
  refine am_icmp_ne (tgt := 89) X dX10_ringsFrom_18 (by decide) (fun h18 => ?_) (fun h18 => ?_)
  · skip
    refine am_iload_n (x := bits) X (by rfl) dX10_ringsFrom_89 ?_
    refine am_callSi X hY lk_X10_272 mf_X10_bitsOf (m_X10_bitsOf σ bits s hb hs.2) (by decide) (by decide) (Nat.le_refl _) (Nat.le_refl _) rfl rfl (Nat.le_of_ble_eq_true rfl) dX10_ringsFrom_90 (fun r90 sh90 σ90 hr90 hp90 => ?_)
    obtain ⟨rfl, rfl, hq90⟩ := hp90
    refine am_ic X (by decide) dX10_ringsFrom_93 ?_
    refine am_icmp_ne (tgt := 98) X dX10_ringsFrom_94 (by decide) (fun h94 => ?_) (fun h94 => ?_)
    · skip
      refine am_ic X (by decide) dX10_ringsFrom_98 ?_
      refine am_istore (i := 5) (L' := [some (vr 63), some (vi (first : Int)), some (vi (last : Int)), some (vi bits), some (vi ow), some (vi 0), none]) X (Nat.le_of_ble_eq_true rfl) (by rfl) dX10_ringsFrom_99 ?_
      have hL101 : ∀ (m101 : Nat) (k : Nat) (τ : am_H) (hk : (k : Int) ≤ σ 63 7) (hfr : md_frr σ τ) (htb : τ 63 27 < 1048576) (hlo : MLo σ 4 first last s v k (σ 63 27) (τ 63 27)) (hm101 : 20 - k = m101), am_G K 101 [some (vr 63), some (vi (first : Int)), some (vi (last : Int)), some (vi bits), some (vi ow), some (vi (k : Int)), none] [] SH τ := by
        intro m101
        induction m101 using Nat.strongRecOn with
        | ind m101 ih101 =>
        intro k τ hk hfr htb hlo hm101
        refine am_iload (x := (k : Int)) X (by rfl) dX10_ringsFrom_101 ?_
        refine am_aload_n (x := 63) X (by rfl) dX10_ringsFrom_103 ?_
        refine am_get (v := σ 63 7) X 63 fl_X10_111 (by decide) sh_63 (by decide) (hfr 63 7 (by decide)) dX10_ringsFrom_104 ?_
        refine am_icmp_ge (tgt := 227) X dX10_ringsFrom_107 (by decide) (fun h107 => ?_) (fun h107 => ?_)
        · skip
          exact hret _ _ _ _ dX10_ringsFrom_227 rfl rfl (⟨rfl, hfr, MFo_end (by rw [show (σ 63 7).toNat = k by omega]; exact hlo) (by omega)⟩)
        · skip
          have hdk := hdeb k (by omega)
          have hok : σ 68 (5 * k) = (m_o σ k : Int) := by unfold m_o; omega
          refine am_aload_n (x := 63) X (by rfl) dX10_ringsFrom_110 ?_
          refine am_iload (x := (k : Int)) X (by rfl) dX10_ringsFrom_111 ?_
          refine am_callVi (ci := 9) X hY lk_X10_240 mf_X10_isOpen (m_X10_isOpen (k : Int) k rfl (by omega) τ) (by decide) (by decide) (Nat.le_refl _) (Nat.le_refl _) sh_63 rfl rfl rfl (Nat.le_of_ble_eq_true rfl) dX10_ringsFrom_113 (fun r113 sh113 σ113 hr113 hp113 => ?_)
          obtain ⟨rfl, rfl, hq113⟩ := hp113
          rw [hfr 68 _ (Or.inl (by decide))] at hq113
          refine am_if_eq (tgt := 186) X dX10_ringsFrom_116 (by decide) (fun h116 => ?_) (fun h116 => ?_)
          · skip
            refine am_ic X (by decide) dX10_ringsFrom_186 ?_
            refine am_istore (i := 6) (L' := [some (vr 63), some (vi (first : Int)), some (vi (last : Int)), some (vi bits), some (vi ow), some (vi (k : Int)), some (vi 0)]) X (Nat.le_of_ble_eq_true rfl) (by rfl) dX10_ringsFrom_187 ?_
            
            refine am_iload (x := 0) X (by rfl) dX10_ringsFrom_189 ?_
            refine am_if_eq (tgt := 221) X dX10_ringsFrom_191 (by decide) (fun _ => ?_) (fun h => absurd h (by decide))
            refine am_inc (x := (k : Int)) (v := ((k : Int) + 1)) (L' := [some (vr 63), some (vi (first : Int)), some (vi (last : Int)), some (vi bits), some (vi ow), some (vi ((k : Int) + 1)), some (vi 0)]) X (by rfl) (by omega) (by omega) (by rfl) dX10_ringsFrom_221 ?_
            refine am_goto (tgt := 101) X dX10_ringsFrom_224 (by decide) ?_
            refine am_fg [true, true, true, true, true, true, false] rfl (L' := [some (vr 63), some (vi (first : Int)), some (vi (last : Int)), some (vi bits), some (vi ow), some (vi ((k : Int) + 1)), none]) rfl ?_
            exact ih101 _ (by omega) (k + 1) τ (by omega) (hfr) (htb) (MLo_no hlo (fun q => by have q4 := q.2.2.2; have q3 := q.2.2.1; have q2 : σ 68 (5 * k + 3) = σ 68 (5 * first + 3) := q.2.1; have q1 := q.1; first | omega | (have h1 : σ 68 (5 * k) = σ 68 (5 * last + 1) := (by omega); rw [h1, hv3, q4] at h179; exact absurd h179 (by decide)))) rfl
          · skip
            refine am_aload_n (x := 63) X (by rfl) dX10_ringsFrom_119 ?_
            refine am_getr (c1 := 68) X 63 fl_X10_22 (by decide) sh_63 (by decide) (by rfl) dX10_ringsFrom_120 ?_
            refine am_ic X (by decide) dX10_ringsFrom_123 ?_
            refine am_iload (x := (k : Int)) X (by rfl) dX10_ringsFrom_124 ?_
            refine am_mul (v := (5 * (k : Int))) X (by first | rfl | omega) (by omega) dX10_ringsFrom_126 ?_
            refine am_ic X (by decide) dX10_ringsFrom_127 ?_
            refine am_add (v := ((5 * (k : Int)) + 3)) X (by first | rfl | omega) (by omega) dX10_ringsFrom_128 ?_
            refine am_ald (v := σ 68 ((5 * k) + 3)) X 68 ((5 * k) + 3) sh_68 (by omega) (by omega) (hfr 68 ((5 * k) + 3) (Or.inl (by decide))) dX10_ringsFrom_129 ?_
            refine am_aload_n (x := 63) X (by rfl) dX10_ringsFrom_130 ?_
            refine am_getr (c1 := 68) X 63 fl_X10_22 (by decide) sh_63 (by decide) (by rfl) dX10_ringsFrom_131 ?_
            refine am_ic X (by decide) dX10_ringsFrom_134 ?_
            refine am_iload_n (x := (first : Int)) X (by rfl) dX10_ringsFrom_135 ?_
            refine am_mul (v := (5 * (first : Int))) X (by first | rfl | omega) (by omega) dX10_ringsFrom_136 ?_
            refine am_ic X (by decide) dX10_ringsFrom_137 ?_
            refine am_add (v := ((5 * (first : Int)) + 3)) X (by first | rfl | omega) (by omega) dX10_ringsFrom_138 ?_
            refine am_ald (v := σ 68 ((5 * first) + 3)) X 68 ((5 * first) + 3) sh_68 (by omega) (by omega) (hfr 68 ((5 * first) + 3) (Or.inl (by decide))) dX10_ringsFrom_139 ?_
            refine am_icmp_ne (tgt := 186) X dX10_ringsFrom_140 (by decide) (fun h140 => ?_) (fun h140 => ?_)
            · skip
              refine am_ic X (by decide) dX10_ringsFrom_186 ?_
              refine am_istore (i := 6) (L' := [some (vr 63), some (vi (first : Int)), some (vi (last : Int)), some (vi bits), some (vi ow), some (vi (k : Int)), some (vi 0)]) X (Nat.le_of_ble_eq_true rfl) (by rfl) dX10_ringsFrom_187 ?_
              
              refine am_iload (x := 0) X (by rfl) dX10_ringsFrom_189 ?_
              refine am_if_eq (tgt := 221) X dX10_ringsFrom_191 (by decide) (fun _ => ?_) (fun h => absurd h (by decide))
              refine am_inc (x := (k : Int)) (v := ((k : Int) + 1)) (L' := [some (vr 63), some (vi (first : Int)), some (vi (last : Int)), some (vi bits), some (vi ow), some (vi ((k : Int) + 1)), some (vi 0)]) X (by rfl) (by omega) (by omega) (by rfl) dX10_ringsFrom_221 ?_
              refine am_goto (tgt := 101) X dX10_ringsFrom_224 (by decide) ?_
              refine am_fg [true, true, true, true, true, true, false] rfl (L' := [some (vr 63), some (vi (first : Int)), some (vi (last : Int)), some (vi bits), some (vi ow), some (vi ((k : Int) + 1)), none]) rfl ?_
              exact ih101 _ (by omega) (k + 1) τ (by omega) (hfr) (htb) (MLo_no hlo (fun q => by have q4 := q.2.2.2; have q3 := q.2.2.1; have q2 : σ 68 (5 * k + 3) = σ 68 (5 * first + 3) := q.2.1; have q1 := q.1; first | omega | (have h1 : σ 68 (5 * k) = σ 68 (5 * last + 1) := (by omega); rw [h1, hv3, q4] at h179; exact absurd h179 (by decide)))) rfl
            · skip
              refine am_aload_n (x := 63) X (by rfl) dX10_ringsFrom_143 ?_
              refine am_getr (c1 := 68) X 63 fl_X10_22 (by decide) sh_63 (by decide) (by rfl) dX10_ringsFrom_144 ?_
              refine am_ic X (by decide) dX10_ringsFrom_147 ?_
              refine am_iload (x := (k : Int)) X (by rfl) dX10_ringsFrom_148 ?_
              refine am_mul (v := (5 * (k : Int))) X (by first | rfl | omega) (by omega) dX10_ringsFrom_150 ?_
              refine am_ald (v := σ 68 (5 * k)) X 68 (5 * k) sh_68 (by omega) (by omega) (hfr 68 (5 * k) (Or.inl (by decide))) dX10_ringsFrom_151 ?_
              refine am_aload_n (x := 63) X (by rfl) dX10_ringsFrom_152 ?_
              refine am_getr (c1 := 68) X 63 fl_X10_22 (by decide) sh_63 (by decide) (by rfl) dX10_ringsFrom_153 ?_
              refine am_ic X (by decide) dX10_ringsFrom_156 ?_
              refine am_iload_n (x := (last : Int)) X (by rfl) dX10_ringsFrom_157 ?_
              refine am_mul (v := (5 * (last : Int))) X (by first | rfl | omega) (by omega) dX10_ringsFrom_158 ?_
              refine am_ic X (by decide) dX10_ringsFrom_159 ?_
              refine am_add (v := ((5 * (last : Int)) + 1)) X (by first | rfl | omega) (by omega) dX10_ringsFrom_160 ?_
              refine am_ald (v := σ 68 ((5 * last) + 1)) X 68 ((5 * last) + 1) sh_68 (by omega) (by omega) (hfr 68 ((5 * last) + 1) (Or.inl (by decide))) dX10_ringsFrom_161 ?_
              refine am_icmp_ne (tgt := 186) X dX10_ringsFrom_162 (by decide) (fun h162 => ?_) (fun h162 => ?_)
              · skip
                refine am_ic X (by decide) dX10_ringsFrom_186 ?_
                refine am_istore (i := 6) (L' := [some (vr 63), some (vi (first : Int)), some (vi (last : Int)), some (vi bits), some (vi ow), some (vi (k : Int)), some (vi 0)]) X (Nat.le_of_ble_eq_true rfl) (by rfl) dX10_ringsFrom_187 ?_
                
                refine am_iload (x := 0) X (by rfl) dX10_ringsFrom_189 ?_
                refine am_if_eq (tgt := 221) X dX10_ringsFrom_191 (by decide) (fun _ => ?_) (fun h => absurd h (by decide))
                refine am_inc (x := (k : Int)) (v := ((k : Int) + 1)) (L' := [some (vr 63), some (vi (first : Int)), some (vi (last : Int)), some (vi bits), some (vi ow), some (vi ((k : Int) + 1)), some (vi 0)]) X (by rfl) (by omega) (by omega) (by rfl) dX10_ringsFrom_221 ?_
                refine am_goto (tgt := 101) X dX10_ringsFrom_224 (by decide) ?_
                refine am_fg [true, true, true, true, true, true, false] rfl (L' := [some (vr 63), some (vi (first : Int)), some (vi (last : Int)), some (vi bits), some (vi ow), some (vi ((k : Int) + 1)), none]) rfl ?_
                exact ih101 _ (by omega) (k + 1) τ (by omega) (hfr) (htb) (MLo_no hlo (fun q => by have q4 := q.2.2.2; have q3 := q.2.2.1; have q2 : σ 68 (5 * k + 3) = σ 68 (5 * first + 3) := q.2.1; have q1 := q.1; first | omega | (have h1 : σ 68 (5 * k) = σ 68 (5 * last + 1) := (by omega); rw [h1, hv3, q4] at h179; exact absurd h179 (by decide)))) rfl
              · skip
                refine am_iload (x := ow) X (by rfl) dX10_ringsFrom_165 ?_
                refine am_aload_n (x := 63) X (by rfl) dX10_ringsFrom_167 ?_
                refine am_getr (c1 := 68) X 63 fl_X10_22 (by decide) sh_63 (by decide) (by rfl) dX10_ringsFrom_168 ?_
                refine am_ic X (by decide) dX10_ringsFrom_171 ?_
                refine am_iload (x := (k : Int)) X (by rfl) dX10_ringsFrom_172 ?_
                refine am_mul (v := (5 * (k : Int))) X (by first | rfl | omega) (by omega) dX10_ringsFrom_174 ?_
                refine am_ald (v := σ 68 (5 * k)) X 68 (5 * k) sh_68 (by omega) (by omega) (hfr 68 (5 * k) (Or.inl (by decide))) dX10_ringsFrom_175 ?_
                refine am_ishr X dX10_ringsFrom_176 ?_
                refine am_ic X (by decide) dX10_ringsFrom_177 ?_
                refine am_iand X dX10_ringsFrom_178 ?_
                refine am_if_ne (tgt := 186) X dX10_ringsFrom_179 (by decide) (fun h179 => ?_) (fun h179 => ?_)
                · skip
                  refine am_ic X (by decide) dX10_ringsFrom_186 ?_
                  refine am_istore (i := 6) (L' := [some (vr 63), some (vi (first : Int)), some (vi (last : Int)), some (vi bits), some (vi ow), some (vi (k : Int)), some (vi 0)]) X (Nat.le_of_ble_eq_true rfl) (by rfl) dX10_ringsFrom_187 ?_
                  
                  refine am_iload (x := 0) X (by rfl) dX10_ringsFrom_189 ?_
                  refine am_if_eq (tgt := 221) X dX10_ringsFrom_191 (by decide) (fun _ => ?_) (fun h => absurd h (by decide))
                  refine am_inc (x := (k : Int)) (v := ((k : Int) + 1)) (L' := [some (vr 63), some (vi (first : Int)), some (vi (last : Int)), some (vi bits), some (vi ow), some (vi ((k : Int) + 1)), some (vi 0)]) X (by rfl) (by omega) (by omega) (by rfl) dX10_ringsFrom_221 ?_
                  refine am_goto (tgt := 101) X dX10_ringsFrom_224 (by decide) ?_
                  refine am_fg [true, true, true, true, true, true, false] rfl (L' := [some (vr 63), some (vi (first : Int)), some (vi (last : Int)), some (vi bits), some (vi ow), some (vi ((k : Int) + 1)), none]) rfl ?_
                  exact ih101 _ (by omega) (k + 1) τ (by omega) (hfr) (htb) (MLo_no hlo (fun q => by have q4 := q.2.2.2; have q3 := q.2.2.1; have q2 : σ 68 (5 * k + 3) = σ 68 (5 * first + 3) := q.2.1; have q1 := q.1; first | omega | (have h1 : σ 68 (5 * k) = σ 68 (5 * last + 1) := (by omega); rw [h1, hv3, q4] at h179; exact absurd h179 (by decide)))) rfl
                · skip
                  refine am_ic X (by decide) dX10_ringsFrom_182 ?_
                  refine am_goto (tgt := 187) X dX10_ringsFrom_183 (by decide) ?_
                  refine am_istore (i := 6) (L' := [some (vr 63), some (vi (first : Int)), some (vi (last : Int)), some (vi bits), some (vi ow), some (vi (k : Int)), some (vi 1)]) X (Nat.le_of_ble_eq_true rfl) (by rfl) dX10_ringsFrom_187 ?_
                  
                  refine am_iload (x := 1) X (by rfl) dX10_ringsFrom_189 ?_
                  refine am_if_eq (tgt := 221) X dX10_ringsFrom_191 (by decide) (fun h => absurd h (by decide)) (fun _ => ?_)
                  have hbit : v.testBit (m_w σ last) = false := by
                    have h1 : σ 68 (5 * k) = σ 68 (5 * last + 1) := by omega
                    rw [h1, hv3] at h179
                    cases e : v.testBit (m_w σ last)
                    · rfl
                    · rw [e] at h179; exact absurd h179 (by decide)
                  have hokw : m_o σ k = m_w σ last := by omega
                  have hsk := rg_orl hb hs.2 (k := k) (by omega) (i := (k : Int)) rfl
                  have hvk := rg_orv ho hv (p := m_o σ k) (by omega) hok
                  have hmv := MVi_s hvi hokw hbit
                  refine am_aload_n (x := 63) X (by rfl) dX10_ringsFrom_194 ?_
                  refine am_iload_n (x := (first : Int)) X (by rfl) dX10_ringsFrom_195 ?_
                  refine am_iload (x := (k : Int)) X (by rfl) dX10_ringsFrom_196 ?_
                  refine am_iload_n (x := bits) X (by rfl) dX10_ringsFrom_198 ?_
                  refine am_ic X (by decide) dX10_ringsFrom_199 ?_
                  refine am_iload (x := (k : Int)) X (by rfl) dX10_ringsFrom_200 ?_
                  refine am_ishl X dX10_ringsFrom_202 ?_
                  refine am_ior X dX10_ringsFrom_203 ?_
                  refine am_iload (x := ow) X (by rfl) dX10_ringsFrom_204 ?_
                  refine am_ic X (by decide) dX10_ringsFrom_206 ?_
                  refine am_aload_n (x := 63) X (by rfl) dX10_ringsFrom_207 ?_
                  refine am_getr (c1 := 68) X 63 fl_X10_22 (by decide) sh_63 (by decide) (by rfl) dX10_ringsFrom_208 ?_
                  refine am_ic X (by decide) dX10_ringsFrom_211 ?_
                  refine am_iload (x := (k : Int)) X (by rfl) dX10_ringsFrom_212 ?_
                  refine am_mul (v := (5 * (k : Int))) X (by first | rfl | omega) (by omega) dX10_ringsFrom_214 ?_
                  refine am_ald (v := σ 68 (5 * k)) X 68 (5 * k) sh_68 (by omega) (by omega) (hfr 68 (5 * k) (Or.inl (by decide))) dX10_ringsFrom_215 ?_
                  refine am_ishl X dX10_ringsFrom_216 ?_
                  refine am_ior X dX10_ringsFrom_217 ?_
                  refine am_callVv (ci := 9) X hY lk_X10_275 mf_X10_ringsFrom (m_X10_ringsFrom_3 τ first k (s ||| 2 ^ k) (v ||| 2 ^ m_o σ k) (am_or bits (am_shl 1 (k : Int))) (am_or ow (am_shl 1 (σ 68 (5 * k)))) hsk.1 hvk.1 ⟨Nat.lt_of_lt_of_le hs.1 Nat.left_le_or, hsk.2⟩ hvk.2.1 (by rw [hfr 63 7 (by decide)]; exact hf) (by rw [hfr 63 7 (by decide)]; omega) htb (by rw [hfr 63 6 (by decide)]; exact hp) (by rw [hfr 63 7 (by decide)]; exact hc) (md_deb_frr hfr hdeb) (MVi_fr hfr hmv.1) (rg_pc_s (by omega) hmv.2 hpc)) (by decide) (by decide) (Nat.le_refl _) (Nat.le_refl _) sh_63 rfl rfl rfl (Nat.le_of_ble_eq_true rfl) dX10_ringsFrom_218 (fun sh218 σ218 hp218 => ?_)
                  obtain ⟨rfl, hf218, hq218⟩ := hp218
                  have hq218 := MFo_fr hfr hq218
                  refine am_inc (x := (k : Int)) (v := ((k : Int) + 1)) (L' := [some (vr 63), some (vi (first : Int)), some (vi (last : Int)), some (vi bits), some (vi ow), some (vi ((k : Int) + 1)), some (vi 1)]) X (by rfl) (by omega) (by omega) (by rfl) dX10_ringsFrom_221 ?_
                  refine am_goto (tgt := 101) X dX10_ringsFrom_224 (by decide) ?_
                  refine am_fg [true, true, true, true, true, true, false] rfl (L' := [some (vr 63), some (vi (first : Int)), some (vi (last : Int)), some (vi bits), some (vi ow), some (vi ((k : Int) + 1)), none]) rfl ?_
                  exact ih101 _ (by omega) (k + 1) σ218 (by omega) (fun c j h => (hf218 c j h).trans (hfr c j h)) (by exact MFo_bd hq218 hsk.2 htb (by omega)) (MLo_yes hlo (by omega) (by omega) (by show σ 68 (5 * k + 3) = σ 68 (5 * first + 3); omega) hokw hbit hq218) rfl
      exact hL101 _ 0 σ (by omega) (fun _ _ _ => rfl) (hrb) (MLo_0) rfl
    · skip
      (exfalso; omega)
  · skip
    refine am_aload_n (x := 63) X (by rfl) dX10_ringsFrom_21 ?_
    refine am_get (v := σ 63 27) X 63 fl_X10_269 (by decide) sh_63 (by decide) (rfl) dX10_ringsFrom_22 ?_
    refine am_if_lt (tgt := 64) X dX10_ringsFrom_25 (by decide) (fun h25 => ?_) (fun h25 => ?_)
    · skip
      refine am_ic X (by decide) dX10_ringsFrom_64 ?_
      refine am_goto (tgt := 69) X dX10_ringsFrom_65 (by decide) ?_
      refine am_istore (i := 5) (L' := [some (vr 63), some (vi (first : Int)), some (vi (last : Int)), some (vi bits), some (vi ow), some (vi 1), none]) X (Nat.le_of_ble_eq_true rfl) (by rfl) dX10_ringsFrom_69 ?_
      refine am_aload_n (x := 63) X (by rfl) dX10_ringsFrom_71 ?_
      refine am_iload (x := 1) X (by rfl) dX10_ringsFrom_72 ?_
      refine am_if_eq (tgt := 81) X dX10_ringsFrom_74 (by decide) (fun h => absurd h (by decide)) (fun _ => ?_)
      refine am_iload_n (x := bits) X (by rfl) dX10_ringsFrom_77 ?_
      refine am_goto (tgt := 85) X dX10_ringsFrom_78 (by decide) ?_
      refine am_puti X 63 fl_X10_269 rfl rfl sh_63 (by decide) dX10_ringsFrom_85 ?_
      exact hret _ _ _ _ dX10_ringsFrom_88 rfl rfl (⟨rfl, fun c k h => am_up_k (by omega), MFo_cl (by omega) hvi (by rw [am_up_eq]; exact Or.inl ⟨hb, rg_bl_1 (by omega)⟩)⟩)
    · skip
      refine am_iload_n (x := bits) X (by rfl) dX10_ringsFrom_28 ?_
      refine am_callSi X hY lk_X10_272 mf_X10_bitsOf (m_X10_bitsOf σ bits s hb hs.2) (by decide) (by decide) (Nat.le_refl _) (Nat.le_refl _) rfl rfl (Nat.le_of_ble_eq_true rfl) dX10_ringsFrom_29 (fun r29 sh29 σ29 hr29 hp29 => ?_)
      obtain ⟨rfl, rfl, hq29⟩ := hp29
      refine am_aload_n (x := 63) X (by rfl) dX10_ringsFrom_32 ?_
      refine am_get (v := σ 63 27) X 63 fl_X10_269 (by decide) sh_63 (by decide) (rfl) dX10_ringsFrom_33 ?_
      refine am_callSi X hY lk_X10_272 mf_X10_bitsOf (m_X10_bitsOf σ (σ 63 27) (σ 63 27).toNat (by omega) (by omega)) (by decide) (by decide) (Nat.le_refl _) (Nat.le_refl _) rfl rfl (Nat.le_of_ble_eq_true rfl) dX10_ringsFrom_36 (fun r36 sh36 σ36 hr36 hp36 => ?_)
      obtain ⟨rfl, rfl, hq36⟩ := hp36
      refine am_icmp_lt (tgt := 64) X dX10_ringsFrom_39 (by decide) (fun h39 => ?_) (fun h39 => ?_)
      · skip
        refine am_ic X (by decide) dX10_ringsFrom_64 ?_
        refine am_goto (tgt := 69) X dX10_ringsFrom_65 (by decide) ?_
        refine am_istore (i := 5) (L' := [some (vr 63), some (vi (first : Int)), some (vi (last : Int)), some (vi bits), some (vi ow), some (vi 1), none]) X (Nat.le_of_ble_eq_true rfl) (by rfl) dX10_ringsFrom_69 ?_
        refine am_aload_n (x := 63) X (by rfl) dX10_ringsFrom_71 ?_
        refine am_iload (x := 1) X (by rfl) dX10_ringsFrom_72 ?_
        refine am_if_eq (tgt := 81) X dX10_ringsFrom_74 (by decide) (fun h => absurd h (by decide)) (fun _ => ?_)
        refine am_iload_n (x := bits) X (by rfl) dX10_ringsFrom_77 ?_
        refine am_goto (tgt := 85) X dX10_ringsFrom_78 (by decide) ?_
        refine am_puti X 63 fl_X10_269 rfl rfl sh_63 (by decide) dX10_ringsFrom_85 ?_
        exact hret _ _ _ _ dX10_ringsFrom_88 rfl rfl (⟨rfl, fun c k h => am_up_k (by omega), MFo_cl (by omega) hvi (by rw [am_up_eq]; exact Or.inl ⟨hb, rg_bl_1 (by omega)⟩)⟩)
      · skip
        refine am_iload_n (x := bits) X (by rfl) dX10_ringsFrom_42 ?_
        refine am_callSi X hY lk_X10_272 mf_X10_bitsOf (m_X10_bitsOf σ bits s hb hs.2) (by decide) (by decide) (Nat.le_refl _) (Nat.le_refl _) rfl rfl (Nat.le_of_ble_eq_true rfl) dX10_ringsFrom_43 (fun r43 sh43 σ43 hr43 hp43 => ?_)
        obtain ⟨rfl, rfl, hq43⟩ := hp43
        refine am_aload_n (x := 63) X (by rfl) dX10_ringsFrom_46 ?_
        refine am_get (v := σ 63 27) X 63 fl_X10_269 (by decide) sh_63 (by decide) (rfl) dX10_ringsFrom_47 ?_
        refine am_callSi X hY lk_X10_272 mf_X10_bitsOf (m_X10_bitsOf σ (σ 63 27) (σ 63 27).toNat (by omega) (by omega)) (by decide) (by decide) (Nat.le_refl _) (Nat.le_refl _) rfl rfl (Nat.le_of_ble_eq_true rfl) dX10_ringsFrom_50 (fun r50 sh50 σ50 hr50 hp50 => ?_)
        obtain ⟨rfl, rfl, hq50⟩ := hp50
        refine am_icmp_ne (tgt := 68) X dX10_ringsFrom_53 (by decide) (fun h53 => ?_) (fun h53 => ?_)
        · skip
          refine am_ic X (by decide) dX10_ringsFrom_68 ?_
          refine am_istore (i := 5) (L' := [some (vr 63), some (vi (first : Int)), some (vi (last : Int)), some (vi bits), some (vi ow), some (vi 0), none]) X (Nat.le_of_ble_eq_true rfl) (by rfl) dX10_ringsFrom_69 ?_
          refine am_aload_n (x := 63) X (by rfl) dX10_ringsFrom_71 ?_
          refine am_iload (x := 0) X (by rfl) dX10_ringsFrom_72 ?_
          refine am_if_eq (tgt := 81) X dX10_ringsFrom_74 (by decide) (fun _ => ?_) (fun h => absurd h (by decide))
          refine am_aload_n (x := 63) X (by rfl) dX10_ringsFrom_81 ?_
          refine am_get (v := σ 63 27) X 63 fl_X10_269 (by decide) sh_63 (by decide) (rfl) dX10_ringsFrom_82 ?_
          refine am_puti X 63 fl_X10_269 rfl rfl sh_63 (by decide) dX10_ringsFrom_85 ?_
          exact hret _ _ _ _ dX10_ringsFrom_88 rfl rfl (⟨rfl, fun c k h => am_up_k (by omega), MFo_cl (by omega) hvi (by rw [am_up_eq]; exact Or.inr ⟨rfl, rg_bl_2 (by omega)⟩)⟩)
        · skip
          refine am_iload_n (x := bits) X (by rfl) dX10_ringsFrom_56 ?_
          refine am_aload_n (x := 63) X (by rfl) dX10_ringsFrom_57 ?_
          refine am_get (v := σ 63 27) X 63 fl_X10_269 (by decide) sh_63 (by decide) (rfl) dX10_ringsFrom_58 ?_
          refine am_icmp_ge (tgt := 68) X dX10_ringsFrom_61 (by decide) (fun h61 => ?_) (fun h61 => ?_)
          · skip
            refine am_ic X (by decide) dX10_ringsFrom_68 ?_
            refine am_istore (i := 5) (L' := [some (vr 63), some (vi (first : Int)), some (vi (last : Int)), some (vi bits), some (vi ow), some (vi 0), none]) X (Nat.le_of_ble_eq_true rfl) (by rfl) dX10_ringsFrom_69 ?_
            refine am_aload_n (x := 63) X (by rfl) dX10_ringsFrom_71 ?_
            refine am_iload (x := 0) X (by rfl) dX10_ringsFrom_72 ?_
            refine am_if_eq (tgt := 81) X dX10_ringsFrom_74 (by decide) (fun _ => ?_) (fun h => absurd h (by decide))
            refine am_aload_n (x := 63) X (by rfl) dX10_ringsFrom_81 ?_
            refine am_get (v := σ 63 27) X 63 fl_X10_269 (by decide) sh_63 (by decide) (rfl) dX10_ringsFrom_82 ?_
            refine am_puti X 63 fl_X10_269 rfl rfl sh_63 (by decide) dX10_ringsFrom_85 ?_
            exact hret _ _ _ _ dX10_ringsFrom_88 rfl rfl (⟨rfl, fun c k h => am_up_k (by omega), MFo_cl (by omega) hvi (by rw [am_up_eq]; exact Or.inr ⟨rfl, rg_bl_2 (by omega)⟩)⟩)
          · skip
            refine am_ic X (by decide) dX10_ringsFrom_64 ?_
            refine am_goto (tgt := 69) X dX10_ringsFrom_65 (by decide) ?_
            refine am_istore (i := 5) (L' := [some (vr 63), some (vi (first : Int)), some (vi (last : Int)), some (vi bits), some (vi ow), some (vi 1), none]) X (Nat.le_of_ble_eq_true rfl) (by rfl) dX10_ringsFrom_69 ?_
            refine am_aload_n (x := 63) X (by rfl) dX10_ringsFrom_71 ?_
            refine am_iload (x := 1) X (by rfl) dX10_ringsFrom_72 ?_
            refine am_if_eq (tgt := 81) X dX10_ringsFrom_74 (by decide) (fun h => absurd h (by decide)) (fun _ => ?_)
            refine am_iload_n (x := bits) X (by rfl) dX10_ringsFrom_77 ?_
            refine am_goto (tgt := 85) X dX10_ringsFrom_78 (by decide) ?_
            refine am_puti X 63 fl_X10_269 rfl rfl sh_63 (by decide) dX10_ringsFrom_85 ?_
            exact hret _ _ _ _ dX10_ringsFrom_88 rfl rfl (⟨rfl, fun c k h => am_up_k (by omega), MFo_cl (by omega) hvi (by rw [am_up_eq]; exact Or.inl ⟨hb, rg_bl_1 (by omega)⟩)⟩)

set_option maxHeartbeats 4000000 in
set_option maxRecDepth 100000 in
theorem m_X10_ring (σ : am_H) (hp : 0 ≤ σ 63 6 ∧ σ 63 6 ≤ 8) (hc : 0 ≤ σ 63 7 ∧ σ 63 7 ≤ 20) (hdeb : MdeV σ) : am_Mi yX10_ring cX10_ring 2 (some .int) 9 0 0 [vr 63] SH σ (fun r sh' σ' => SH = sh' ∧ md_frr σ σ' ∧ m_rg σ r ∧ r < 1048576) := by
  refine am_Mi_of (by decide +kernel) (Nat.le_of_ble_eq_true rfl) (fun K X hY hI hret => ?_)
  show am_G K 0 [some (vr 63), none] [] SH σ
  refine am_aload_n (x := 63) X (by rfl) dX10_ring_0 ?_
  refine am_bipush X (by decide) dX10_ring_1 ?_
  refine am_puti X 63 fl_X10_269 rfl rfl sh_63 (by decide) dX10_ring_3 ?_
  refine am_ic X (by decide) dX10_ring_6 ?_
  refine am_istore_n (i := 1) (L' := [some (vr 63), some (vi 0)]) X rfl (Nat.le_of_ble_eq_true rfl) (by rfl) dX10_ring_7 ?_
  have hL8 : ∀ (m8 : Nat) (f : Nat) (τ : am_H) (hfk : (f : Int) ≤ σ 63 7) (hfr : md_frr σ τ) (htb : τ 63 27 < 1048576) (hin : MIn σ f (τ 63 27)) (hm8 : 20 - f = m8), am_G K 8 [some (vr 63), some (vi (f : Int))] [] SH τ := by
    intro m8
    induction m8 using Nat.strongRecOn with
    | ind m8 ih8 =>
    intro f τ hfk hfr htb hin hm8
    refine am_iload_n (x := (f : Int)) X (by rfl) dX10_ring_8 ?_
    refine am_aload_n (x := 63) X (by rfl) dX10_ring_9 ?_
    refine am_get (v := σ 63 7) X 63 fl_X10_111 (by decide) sh_63 (by decide) (hfr 63 7 (by decide)) dX10_ring_10 ?_
    refine am_icmp_ge (tgt := 49) X dX10_ring_13 (by decide) (fun h13 => ?_) (fun h13 => ?_)
    · skip
      refine am_aload_n (x := 63) X (by rfl) dX10_ring_49 ?_
      refine am_get (v := τ 63 27) X 63 fl_X10_269 (by decide) sh_63 (by decide) (rfl) dX10_ring_50 ?_
      exact hret _ _ _ _ _ dX10_ring_53 rfl rfl (⟨rfl, hfr, m_rg_of (by rw [show (σ 63 7).toNat = f by omega]; exact hin), htb⟩)
    · skip
      refine am_aload_n (x := 63) X (by rfl) dX10_ring_16 ?_
      refine am_iload_n (x := (f : Int)) X (by rfl) dX10_ring_17 ?_
      refine am_callVi (ci := 9) X hY lk_X10_240 mf_X10_isOpen (m_X10_isOpen (f : Int) f rfl (by omega) τ) (by decide) (by decide) (Nat.le_refl _) (Nat.le_refl _) sh_63 rfl rfl rfl (Nat.le_of_ble_eq_true rfl) dX10_ring_18 (fun r18 sh18 σ18 hr18 hp18 => ?_)
      obtain ⟨rfl, rfl, hq18⟩ := hp18
      rw [hfr 68 _ (Or.inl (by decide))] at hq18
      refine am_if_eq (tgt := 43) X dX10_ring_21 (by decide) (fun h21 => ?_) (fun h21 => ?_)
      · skip
        refine am_inc (x := (f : Int)) (v := ((f : Int) + 1)) (L' := [some (vr 63), some (vi ((f : Int) + 1))]) X (by rfl) (by omega) (by omega) (by rfl) dX10_ring_43 ?_
        refine am_goto (tgt := 8) X dX10_ring_46 (by decide) ?_
        exact ih8 _ (by omega) (f + 1) τ (by omega) (hfr) (htb) (MIn_no hin (by omega)) rfl
      · skip
        have hdf := hdeb f (by omega)
        have hof : σ 68 (5 * f) = (m_o σ f : Int) := by unfold m_o; omega
        have hoff : m_o σ f < 8 := by omega
        have hp1 := rg_shl' f (by omega)
        have hp2 := rg_shl' (m_o σ f) (by omega)
        have hp3 : 2 ^ m_o σ f < 256 := (show (2 : Nat) ^ m_o σ f < 2 ^ 8 from Nat.pow_lt_pow_right (by decide) hoff)
        refine am_aload_n (x := 63) X (by rfl) dX10_ring_24 ?_
        refine am_iload_n (x := (f : Int)) X (by rfl) dX10_ring_25 ?_
        refine am_iload_n (x := (f : Int)) X (by rfl) dX10_ring_26 ?_
        refine am_ic X (by decide) dX10_ring_27 ?_
        refine am_iload_n (x := (f : Int)) X (by rfl) dX10_ring_28 ?_
        refine am_ishl X dX10_ring_29 ?_
        refine am_ic X (by decide) dX10_ring_30 ?_
        refine am_aload_n (x := 63) X (by rfl) dX10_ring_31 ?_
        refine am_getr (c1 := 68) X 63 fl_X10_22 (by decide) sh_63 (by decide) (by rfl) dX10_ring_32 ?_
        refine am_ic X (by decide) dX10_ring_35 ?_
        refine am_iload_n (x := (f : Int)) X (by rfl) dX10_ring_36 ?_
        refine am_mul (v := (5 * (f : Int))) X (by first | rfl | omega) (by omega) dX10_ring_37 ?_
        refine am_ald (v := σ 68 (5 * f)) X 68 (5 * f) sh_68 (by omega) (by omega) (hfr 68 (5 * f) (Or.inl (by decide))) dX10_ring_38 ?_
        refine am_ishl X dX10_ring_39 ?_
        refine am_callVv (ci := 9) X hY lk_X10_275 mf_X10_ringsFrom (m_X10_ringsFrom_4 τ f f (2 ^ f) (2 ^ m_o σ f) (am_shl 1 (f : Int)) (am_shl 1 (σ 68 (5 * f))) hp1.1 (by rw [hof]; exact hp2.1) ⟨hp1.2.2, hp1.2.1⟩ hp3 (by rw [hfr 63 7 (by decide)]; omega) (by rw [hfr 63 7 (by decide)]; omega) htb (by rw [hfr 63 6 (by decide)]; exact hp) (by rw [hfr 63 7 (by decide)]; exact hc) (md_deb_frr hfr hdeb) (MVi_fr hfr MVi_1) (rg_pc_1 (by omega))) (by decide) (by decide) (Nat.le_refl _) (Nat.le_refl _) sh_63 rfl rfl rfl (Nat.le_of_ble_eq_true rfl) dX10_ring_40 (fun sh40 σ40 hp40 => ?_)
        obtain ⟨rfl, hf40, hq40⟩ := hp40
        have hq40 := MFo_fr hfr hq40
        refine am_inc (x := (f : Int)) (v := ((f : Int) + 1)) (L' := [some (vr 63), some (vi ((f : Int) + 1))]) X (by rfl) (by omega) (by omega) (by rfl) dX10_ring_43 ?_
        refine am_goto (tgt := 8) X dX10_ring_46 (by decide) ?_
        exact ih8 _ (by omega) (f + 1) σ40 (by omega) (fun c j h => (hf40 c j h).trans (hfr c j h)) (MFo_bd hq40 hp1.2.1 htb (by omega)) (MIn_yes hin (by omega) (by omega) hq40) rfl
  exact hL8 _ 0 (am_up σ 63 27 (-2)) (by omega) (fun c k h => am_up_k (by omega)) (by rw [am_up_eq]; decide) (by rw [am_up_eq]; exact MIn_0) rfl
