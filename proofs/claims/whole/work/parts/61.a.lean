set_option maxHeartbeats 4000000 in
set_option maxRecDepth 100000 in
theorem m_X10_workOut (bs : Int) (τ : am_H) (T : Nat → Int) (n : Nat) (σ : am_H) (hτ : am_up (am_up σ 63 14 bs) 63 16 (n : Int) = τ) (htx : lx_txt τ T n) : am_Mi yX10_workOut cX10_workOut 8 (some .int) 44 0 0 [vr 63, vi bs, vi (n : Int)] SH σ (fun r sh' σ' => SH = sh' ∧ ∃ (j : Nat) (f o' : Int), pu τ (j : Int) f o' = σ' ∧ f ≤ 120 ∧ ((∃ fn : Nat, f = (fn : Int) ∧ lx_bad T n fn) ∨ (f = -1 ∧ lx_res τ T n r))) := by
  refine am_Mi_of (by decide +kernel) (Nat.le_of_ble_eq_true rfl) (fun K X hY hI hret => ?_)
  show am_G K 0 [some (vr 63), some (vi bs), some (vi (n : Int)), none, none, none, none, none] [] SH σ
  have hn120 := htx.1
  have he16 : τ 63 16 = (n : Int) := htx.2.1
  refine am_aload_n (x := 63) X (by rfl) dX10_workOut_0 ?_
  refine am_iload_n (x := bs) X (by rfl) dX10_workOut_1 ?_
  refine am_puti X 63 fl_X10_181 rfl rfl sh_63 (by decide) dX10_workOut_2 ?_
  refine am_aload_n (x := 63) X (by rfl) dX10_workOut_5 ?_
  refine am_ic X (by decide) dX10_workOut_6 ?_
  refine am_puti X 63 fl_X10_175 rfl rfl sh_63 (by decide) dX10_workOut_7 ?_
  refine am_aload_n (x := 63) X (by rfl) dX10_workOut_10 ?_
  refine am_iload_n (x := (n : Int)) X (by rfl) dX10_workOut_11 ?_
  refine am_puti X 63 fl_X10_178 rfl rfl sh_63 (by decide) dX10_workOut_12 ?_
  refine am_aload_n (x := 63) X (by rfl) dX10_workOut_15 ?_
  refine am_ic X (by decide) dX10_workOut_16 ?_
  refine am_puti X 63 fl_X10_184 rfl rfl sh_63 (by decide) dX10_workOut_17 ?_
  refine am_aload_n (x := 63) X (by rfl) dX10_workOut_20 ?_
  refine am_ic X (by decide) dX10_workOut_21 ?_
  refine am_puti X 63 fl_X10_208 rfl rfl sh_63 (by decide) dX10_workOut_22 ?_
  refine am_ic X (by decide) dX10_workOut_25 ?_
  refine am_istore_n (i := 3) (L' := [some (vr 63), some (vi bs), some (vi (n : Int)), some (vi 0), none, none, none, none]) X rfl (Nat.le_of_ble_eq_true rfl) (by rfl) dX10_workOut_26 ?_
  refine am_ic X (by decide) dX10_workOut_27 ?_
  refine am_istore (i := 4) (L' := [some (vr 63), some (vi bs), some (vi (n : Int)), some (vi 0), some (vi 0), none, none, none]) X (Nat.le_of_ble_eq_true rfl) (by rfl) dX10_workOut_28 ?_
  refine am_ic X (by decide) dX10_workOut_30 ?_
  refine am_istore (i := 5) (L' := [some (vr 63), some (vi bs), some (vi (n : Int)), some (vi 0), some (vi 0), some (vi 1), none, none]) X (Nat.le_of_ble_eq_true rfl) (by rfl) dX10_workOut_31 ?_
  have hL33 : ∀ (m33 : Nat) (j : Nat) (f : Int) (o1 : Int) (g : Int) (v : Int) (mo : Int) (hW : lx_WI τ T n j f o1 g v mo) (hm33 : (n - j) * 2 + mo.toNat = m33), am_G K 33 [some (vr 63), some (vi bs), some (vi (n : Int)), some (vi g), some (vi v), some (vi mo), none, none] [] SH (pu τ (j : Int) f o1) := by
    intro m33
    induction m33 using Nat.strongRecOn with
    | ind m33 ih33 =>
    intro j f o1 g v mo hW hm33
    obtain ⟨hW1, hW2, hW3⟩ := id hW
    have hmo : mo = 0 ∨ mo = 1 := by rcases hW3 with ⟨z, -⟩ | ⟨z, -⟩ | ⟨z, -⟩ | ⟨z, -⟩ <;> omega
    refine am_iload (x := mo) X (by rfl) dX10_workOut_33 ?_
    refine am_if_eq (tgt := 107) X dX10_workOut_35 (by decide) (fun h35 => ?_) (fun h35 => ?_)
    · skip
      refine am_aload_n (x := 63) X (by rfl) dX10_workOut_107 ?_
      refine am_get (v := f) X 63 fl_X10_184 (by decide) sh_63 (by decide) (pu_17) dX10_workOut_108 ?_
      refine am_if_ge (tgt := 130) X dX10_workOut_111 (by decide) (fun h111 => ?_) (fun h111 => ?_)
      · skip
        refine am_iload (x := v) X (by rfl) dX10_workOut_130 ?_
        exact hret _ _ _ _ _ dX10_workOut_132 rfl rfl (⟨rfl, j, f, o1, rfl, by omega, by rcases hW3 with ⟨z, -⟩ | ⟨-, z⟩ | ⟨-, z, -⟩ | ⟨-, z, -⟩; omega; exact Or.inl z; omega; omega⟩)
      · skip
        refine am_aload_n (x := 63) X (by rfl) dX10_workOut_114 ?_
        refine am_get (v := (j : Int)) X 63 fl_X10_175 (by decide) sh_63 (by decide) (pu_15) dX10_workOut_115 ?_
        refine am_aload_n (x := 63) X (by rfl) dX10_workOut_118 ?_
        refine am_get (v := (τ 63 16)) X 63 fl_X10_178 (by decide) sh_63 (by decide) (pu_at (Or.inr (by decide))) dX10_workOut_119 ?_
        refine am_icmp_ge (tgt := 130) X dX10_workOut_122 (by decide) (fun h122 => ?_) (fun h122 => ?_)
        · skip
          refine am_iload (x := v) X (by rfl) dX10_workOut_130 ?_
          exact hret _ _ _ _ _ dX10_workOut_132 rfl rfl (⟨rfl, j, f, o1, rfl, by omega, by rcases hW3 with ⟨z, -⟩ | ⟨-, fn, z, -⟩ | ⟨-, -, z, -⟩ | ⟨-, z, z2, z3⟩; omega; omega; omega; exact Or.inr ⟨z, z3⟩⟩)
        · skip
          refine am_aload_n (x := 63) X (by rfl) dX10_workOut_125 ?_
          refine am_callVi (ci := 9) X hY lk_X10_211 mf_X10_wrong (m_X10_wrong j f o1 τ (by omega) (by omega)) (by decide) (by decide) (Nat.le_refl _) (Nat.le_refl _) sh_63 rfl rfl rfl (Nat.le_of_ble_eq_true rfl) dX10_workOut_126 (fun r126 sh126 σ126 hr126 hp126 => ?_)
          obtain ⟨rfl, rfl, hq126⟩ := hp126
          exact hret _ _ _ _ _ dX10_workOut_129 rfl rfl (by rw [if_pos (by omega)]; exact ⟨rfl, j, _, o1, rfl, by omega, by rcases hW3 with ⟨z, -⟩ | ⟨-, fn, z, -⟩ | ⟨-, -, -, z⟩ | ⟨-, -, z2, -⟩; omega; omega; exact Or.inl ⟨j, rfl, z⟩; omega⟩)
    · skip
      obtain ⟨hf1, ho1, G, hL, hGV⟩ : f = -1 ∧ o1 = 0 ∧ ∃ G, lx_Lin T n j 0 G (fun _ => true) ∧ lx_GV (G (τ 71)) g v := by
        rcases hW3 with ⟨-, z⟩ | ⟨z, -⟩ | ⟨z, -⟩ | ⟨z, -⟩
        · exact z
        · omega
        · omega
        · omega
      subst hf1
      subst ho1
      clear hW hW3
      refine am_aload_n (x := 63) X (by rfl) dX10_workOut_38 ?_
      refine am_callVi (ci := 9) X hY lk_X10_214 mf_X10_either ((lx_all τ T n htx 6 (by decide)).1 j 0 (by decide) (by decide) (by omega)) (by decide) (by decide) (Nat.le_refl _) (Nat.le_refl _) sh_63 rfl rfl rfl (Nat.le_of_ble_eq_true rfl) dX10_workOut_39 (fun r39 sh39 σ39 hr39 hp39 => ?_)
      obtain ⟨rfl, j39, f39, o39, rfl, hq39⟩ := hp39
      have hw39 := lx_PO_f hq39
      refine am_istore (i := 6) (L' := [some (vr 63), some (vi bs), some (vi (n : Int)), some (vi g), some (vi v), some (vi mo), some (vi r39), none]) X (Nat.le_of_ble_eq_true rfl) (by rfl) dX10_workOut_42 ?_
      refine am_ic X (by decide) dX10_workOut_44 ?_
      refine am_istore (i := 7) (L' := [some (vr 63), some (vi bs), some (vi (n : Int)), some (vi g), some (vi v), some (vi mo), some (vi r39), some (vi 1)]) X (Nat.le_of_ble_eq_true rfl) (by rfl) dX10_workOut_45 ?_
      refine am_aload_n (x := 63) X (by rfl) dX10_workOut_47 ?_
      refine am_bipush X (by decide) dX10_workOut_48 ?_
      refine am_callVi (ci := 9) X hY lk_X10_194 mf_X10_takes (m_X10_takes 63 (by decide) j39 f39 o39 τ T n htx (by omega)) (by decide) (by decide) (Nat.le_refl _) (Nat.le_refl _) sh_63 rfl rfl rfl (Nat.le_of_ble_eq_true rfl) dX10_workOut_50 (fun r50 sh50 σ50 hr50 hp50 => ?_)
      obtain ⟨rfl, j50, rfl, hq50⟩ := hp50
      refine am_if_eq (tgt := 74) X dX10_workOut_53 (by decide) (fun h53 => ?_) (fun h53 => ?_)
      · skip
        obtain ⟨z1, z2⟩ : j50 = j39 ∧ (0 ≤ f39 ∨ n ≤ j39 ∨ T j39 ≠ 63) := by
          rcases hq50 with ⟨z, -⟩ | ⟨-, z⟩
          · exact absurd z (by omega)
          · exact z
        subst z1
        refine am_aload_n (x := 63) X (by rfl) dX10_workOut_74 ?_
        refine am_get (v := f39) X 63 fl_X10_184 (by decide) sh_63 (by decide) (pu_17) dX10_workOut_75 ?_
        refine am_if_ge (tgt := 96) X dX10_workOut_78 (by decide) (fun h78 => ?_) (fun h78 => ?_)
        · skip
          refine am_aload_n (x := 63) X (by rfl) dX10_workOut_96 ?_
          refine am_bipush X (by decide) dX10_workOut_97 ?_
          refine am_callVi (ci := 9) X hY lk_X10_194 mf_X10_takes (m_X10_takes 59 (by decide) j50 f39 o39 τ T n htx (by omega)) (by decide) (by decide) (Nat.le_refl _) (Nat.le_refl _) sh_63 rfl rfl rfl (Nat.le_of_ble_eq_true rfl) dX10_workOut_99 (fun r99 sh99 σ99 hr99 hp99 => ?_)
          obtain ⟨rfl, j99, rfl, hq99⟩ := hp99
          refine am_istore (i := 5) (L' := [some (vr 63), some (vi bs), some (vi (n : Int)), some (vi g), some (vi v), some (vi r99), some (vi r39), some (vi 1)]) X (Nat.le_of_ble_eq_true rfl) (by rfl) dX10_workOut_102 ?_
          refine am_goto (tgt := 33) X dX10_workOut_104 (by decide) ?_
          refine am_fg [true, true, true, true, true, true, false, false] rfl (L' := [some (vr 63), some (vi bs), some (vi (n : Int)), some (vi g), some (vi v), some (vi r99), none, none]) rfl ?_
          exact ih33 _ (by rcases hq99 with ⟨z1, z2, z3, z4, -⟩ | ⟨z1, z2, -⟩ <;> omega) j99 f39 o39 g v r99 (lx_WI_s hL hGV hq39 (fun hf hj h63 => absurd h63 (by omega)) (fun hf => absurd hf (by omega)) hq99) rfl
        · skip
          refine am_iload (x := 1) X (by rfl) dX10_workOut_81 ?_
          refine am_if_eq (tgt := 96) X dX10_workOut_83 (by decide) (fun h => absurd h (by decide)) (fun _ => ?_)
          refine am_iload_n (x := g) X (by rfl) dX10_workOut_86 ?_
          refine am_if_ne (tgt := 96) X dX10_workOut_87 (by decide) (fun h87 => ?_) (fun h87 => ?_)
          · skip
            refine am_aload_n (x := 63) X (by rfl) dX10_workOut_96 ?_
            refine am_bipush X (by decide) dX10_workOut_97 ?_
            refine am_callVi (ci := 9) X hY lk_X10_194 mf_X10_takes (m_X10_takes 59 (by decide) j50 f39 o39 τ T n htx (by omega)) (by decide) (by decide) (Nat.le_refl _) (Nat.le_refl _) sh_63 rfl rfl rfl (Nat.le_of_ble_eq_true rfl) dX10_workOut_99 (fun r99 sh99 σ99 hr99 hp99 => ?_)
            obtain ⟨rfl, j99, rfl, hq99⟩ := hp99
            refine am_istore (i := 5) (L' := [some (vr 63), some (vi bs), some (vi (n : Int)), some (vi g), some (vi v), some (vi r99), some (vi r39), some (vi 1)]) X (Nat.le_of_ble_eq_true rfl) (by rfl) dX10_workOut_102 ?_
            refine am_goto (tgt := 33) X dX10_workOut_104 (by decide) ?_
            refine am_fg [true, true, true, true, true, true, false, false] rfl (L' := [some (vr 63), some (vi bs), some (vi (n : Int)), some (vi g), some (vi v), some (vi r99), none, none]) rfl ?_
            exact ih33 _ (by rcases hq99 with ⟨z1, z2, z3, z4, -⟩ | ⟨z1, z2, -⟩ <;> omega) j99 f39 o39 g v r99 (lx_WI_s hL hGV hq39 (fun hf hj h63 => absurd h63 (by omega)) (fun _ => Or.inr ⟨fun q => absurd q.2 (by omega), rfl, rfl⟩) hq99) rfl
          · skip
            refine am_ic X (by decide) dX10_workOut_90 ?_
            refine am_istore_n (i := 3) (L' := [some (vr 63), some (vi bs), some (vi (n : Int)), some (vi 1), some (vi v), some (vi mo), some (vi r39), some (vi 1)]) X rfl (Nat.le_of_ble_eq_true rfl) (by rfl) dX10_workOut_91 ?_
            refine am_iload (x := r39) X (by rfl) dX10_workOut_92 ?_
            refine am_istore (i := 4) (L' := [some (vr 63), some (vi bs), some (vi (n : Int)), some (vi 1), some (vi r39), some (vi mo), some (vi r39), some (vi 1)]) X (Nat.le_of_ble_eq_true rfl) (by rfl) dX10_workOut_94 ?_
            refine am_aload_n (x := 63) X (by rfl) dX10_workOut_96 ?_
            refine am_bipush X (by decide) dX10_workOut_97 ?_
            refine am_callVi (ci := 9) X hY lk_X10_194 mf_X10_takes (m_X10_takes 59 (by decide) j50 f39 o39 τ T n htx (by omega)) (by decide) (by decide) (Nat.le_refl _) (Nat.le_refl _) sh_63 rfl rfl rfl (Nat.le_of_ble_eq_true rfl) dX10_workOut_99 (fun r99 sh99 σ99 hr99 hp99 => ?_)
            obtain ⟨rfl, j99, rfl, hq99⟩ := hp99
            refine am_istore (i := 5) (L' := [some (vr 63), some (vi bs), some (vi (n : Int)), some (vi 1), some (vi r39), some (vi r99), some (vi r39), some (vi 1)]) X (Nat.le_of_ble_eq_true rfl) (by rfl) dX10_workOut_102 ?_
            refine am_goto (tgt := 33) X dX10_workOut_104 (by decide) ?_
            refine am_fg [true, true, true, true, true, true, false, false] rfl (L' := [some (vr 63), some (vi bs), some (vi (n : Int)), some (vi 1), some (vi r39), some (vi r99), none, none]) rfl ?_
            exact ih33 _ (by rcases hq99 with ⟨z1, z2, z3, z4, -⟩ | ⟨z1, z2, -⟩ <;> omega) j99 f39 o39 1 r39 r99 (lx_WI_s hL hGV hq39 (fun hf hj h63 => absurd h63 (by omega)) (fun _ => Or.inl ⟨⟨rfl, by omega⟩, rfl, rfl⟩) hq99) rfl
      · skip
        obtain ⟨z1, z2, z3, z4⟩ : j50 = j39 + 1 ∧ f39 < 0 ∧ j39 < n ∧ T j39 = 63 := by
          rcases hq50 with ⟨-, z⟩ | ⟨z, -⟩
          · exact z
          · exact absurd z (by omega)
        subst z1
        have e1 : f39 = -1 := by omega
        have e2 : o39 = 0 := by omega
        subst e1
        subst e2
        obtain ⟨P, hL2, hP2⟩ := lx_Lin_c2 hL hq39 (by decide) z3 z4
        refine am_iload (x := r39) X (by rfl) dX10_workOut_56 ?_
        refine am_if_eq (tgt := 65) X dX10_workOut_58 (by decide) (fun h58 => ?_) (fun h58 => ?_)
        · skip
          refine am_ic X (by decide) dX10_workOut_65 ?_
          refine am_istore (i := 7) (L' := [some (vr 63), some (vi bs), some (vi (n : Int)), some (vi g), some (vi v), some (vi mo), some (vi r39), some (vi 0)]) X (Nat.le_of_ble_eq_true rfl) (by rfl) dX10_workOut_66 ?_
          refine am_aload_n (x := 63) X (by rfl) dX10_workOut_68 ?_
          refine am_callVi (ci := 9) X hY lk_X10_214 mf_X10_either ((lx_all τ T n htx 6 (by decide)).1 (j39 + 1) 0 (by decide) (by decide) (by omega)) (by decide) (by decide) (Nat.le_refl _) (Nat.le_refl _) sh_63 rfl rfl rfl (Nat.le_of_ble_eq_true rfl) dX10_workOut_69 (fun r69 sh69 σ69 hr69 hp69 => ?_)
          obtain ⟨rfl, j69, f69, o69, rfl, hq69⟩ := hp69
          have hw69 := lx_PO_f hq69
          refine am_istore (i := 6) (L' := [some (vr 63), some (vi bs), some (vi (n : Int)), some (vi g), some (vi v), some (vi mo), some (vi r69), some (vi 0)]) X (Nat.le_of_ble_eq_true rfl) (by rfl) dX10_workOut_72 ?_
          
          refine am_aload_n (x := 63) X (by rfl) dX10_workOut_74 ?_
          refine am_get (v := f69) X 63 fl_X10_184 (by decide) sh_63 (by decide) (pu_17) dX10_workOut_75 ?_
          refine am_if_ge (tgt := 96) X dX10_workOut_78 (by decide) (fun h78 => ?_) (fun h78 => ?_)
          · skip
            refine am_aload_n (x := 63) X (by rfl) dX10_workOut_96 ?_
            refine am_bipush X (by decide) dX10_workOut_97 ?_
            refine am_callVi (ci := 9) X hY lk_X10_194 mf_X10_takes (m_X10_takes 59 (by decide) j69 f69 o69 τ T n htx (by omega)) (by decide) (by decide) (Nat.le_refl _) (Nat.le_refl _) sh_63 rfl rfl rfl (Nat.le_of_ble_eq_true rfl) dX10_workOut_99 (fun r99 sh99 σ99 hr99 hp99 => ?_)
            obtain ⟨rfl, j99, rfl, hq99⟩ := hp99
            refine am_istore (i := 5) (L' := [some (vr 63), some (vi bs), some (vi (n : Int)), some (vi g), some (vi v), some (vi r99), some (vi r69), some (vi 0)]) X (Nat.le_of_ble_eq_true rfl) (by rfl) dX10_workOut_102 ?_
            refine am_goto (tgt := 33) X dX10_workOut_104 (by decide) ?_
            refine am_fg [true, true, true, true, true, true, false, false] rfl (L' := [some (vr 63), some (vi bs), some (vi (n : Int)), some (vi g), some (vi v), some (vi r99), none, none]) rfl ?_
            exact ih33 _ (by rcases hq99 with ⟨z1, z2, z3, z4, -⟩ | ⟨z1, z2, -⟩ <;> omega) j99 f69 o69 g v r99 (lx_WI_s hL2 hGV hq69 (fun _ _ _ => by decide) (fun hf => absurd hf (by omega)) hq99) rfl
          · skip
            refine am_iload (x := 0) X (by rfl) dX10_workOut_81 ?_
            refine am_if_eq (tgt := 96) X dX10_workOut_83 (by decide) (fun _ => ?_) (fun h => absurd h (by decide))
            refine am_aload_n (x := 63) X (by rfl) dX10_workOut_96 ?_
            refine am_bipush X (by decide) dX10_workOut_97 ?_
            refine am_callVi (ci := 9) X hY lk_X10_194 mf_X10_takes (m_X10_takes 59 (by decide) j69 f69 o69 τ T n htx (by omega)) (by decide) (by decide) (Nat.le_refl _) (Nat.le_refl _) sh_63 rfl rfl rfl (Nat.le_of_ble_eq_true rfl) dX10_workOut_99 (fun r99 sh99 σ99 hr99 hp99 => ?_)
            obtain ⟨rfl, j99, rfl, hq99⟩ := hp99
            refine am_istore (i := 5) (L' := [some (vr 63), some (vi bs), some (vi (n : Int)), some (vi g), some (vi v), some (vi r99), some (vi r69), some (vi 0)]) X (Nat.le_of_ble_eq_true rfl) (by rfl) dX10_workOut_102 ?_
            refine am_goto (tgt := 33) X dX10_workOut_104 (by decide) ?_
            refine am_fg [true, true, true, true, true, true, false, false] rfl (L' := [some (vr 63), some (vi bs), some (vi (n : Int)), some (vi g), some (vi v), some (vi r99), none, none]) rfl ?_
            exact ih33 _ (by rcases hq99 with ⟨z1, z2, z3, z4, -⟩ | ⟨z1, z2, -⟩ <;> omega) j99 f69 o69 g v r99 (lx_WI_s hL2 hGV hq69 (fun _ _ _ => by decide) (fun _ => Or.inr ⟨by have := hP2; intro q; have q1 := hP2.mp q.1; exact absurd q1 (by omega), rfl, rfl⟩) hq99) rfl
        · skip
          refine am_ic X (by decide) dX10_workOut_61 ?_
          refine am_goto (tgt := 66) X dX10_workOut_62 (by decide) ?_
          refine am_istore (i := 7) (L' := [some (vr 63), some (vi bs), some (vi (n : Int)), some (vi g), some (vi v), some (vi mo), some (vi r39), some (vi 1)]) X (Nat.le_of_ble_eq_true rfl) (by rfl) dX10_workOut_66 ?_
          refine am_aload_n (x := 63) X (by rfl) dX10_workOut_68 ?_
          refine am_callVi (ci := 9) X hY lk_X10_214 mf_X10_either ((lx_all τ T n htx 6 (by decide)).1 (j39 + 1) 0 (by decide) (by decide) (by omega)) (by decide) (by decide) (Nat.le_refl _) (Nat.le_refl _) sh_63 rfl rfl rfl (Nat.le_of_ble_eq_true rfl) dX10_workOut_69 (fun r69 sh69 σ69 hr69 hp69 => ?_)
          obtain ⟨rfl, j69, f69, o69, rfl, hq69⟩ := hp69
          have hw69 := lx_PO_f hq69
          refine am_istore (i := 6) (L' := [some (vr 63), some (vi bs), some (vi (n : Int)), some (vi g), some (vi v), some (vi mo), some (vi r69), some (vi 1)]) X (Nat.le_of_ble_eq_true rfl) (by rfl) dX10_workOut_72 ?_
          
          refine am_aload_n (x := 63) X (by rfl) dX10_workOut_74 ?_
          refine am_get (v := f69) X 63 fl_X10_184 (by decide) sh_63 (by decide) (pu_17) dX10_workOut_75 ?_
          refine am_if_ge (tgt := 96) X dX10_workOut_78 (by decide) (fun h78 => ?_) (fun h78 => ?_)
          · skip
            refine am_aload_n (x := 63) X (by rfl) dX10_workOut_96 ?_
            refine am_bipush X (by decide) dX10_workOut_97 ?_
            refine am_callVi (ci := 9) X hY lk_X10_194 mf_X10_takes (m_X10_takes 59 (by decide) j69 f69 o69 τ T n htx (by omega)) (by decide) (by decide) (Nat.le_refl _) (Nat.le_refl _) sh_63 rfl rfl rfl (Nat.le_of_ble_eq_true rfl) dX10_workOut_99 (fun r99 sh99 σ99 hr99 hp99 => ?_)
            obtain ⟨rfl, j99, rfl, hq99⟩ := hp99
            refine am_istore (i := 5) (L' := [some (vr 63), some (vi bs), some (vi (n : Int)), some (vi g), some (vi v), some (vi r99), some (vi r69), some (vi 1)]) X (Nat.le_of_ble_eq_true rfl) (by rfl) dX10_workOut_102 ?_
            refine am_goto (tgt := 33) X dX10_workOut_104 (by decide) ?_
            refine am_fg [true, true, true, true, true, true, false, false] rfl (L' := [some (vr 63), some (vi bs), some (vi (n : Int)), some (vi g), some (vi v), some (vi r99), none, none]) rfl ?_
            exact ih33 _ (by rcases hq99 with ⟨z1, z2, z3, z4, -⟩ | ⟨z1, z2, -⟩ <;> omega) j99 f69 o69 g v r99 (lx_WI_s hL2 hGV hq69 (fun _ _ _ => by decide) (fun hf => absurd hf (by omega)) hq99) rfl
          · skip
            refine am_iload (x := 1) X (by rfl) dX10_workOut_81 ?_
            refine am_if_eq (tgt := 96) X dX10_workOut_83 (by decide) (fun h => absurd h (by decide)) (fun _ => ?_)
            refine am_iload_n (x := g) X (by rfl) dX10_workOut_86 ?_
            refine am_if_ne (tgt := 96) X dX10_workOut_87 (by decide) (fun h87 => ?_) (fun h87 => ?_)
            · skip
              refine am_aload_n (x := 63) X (by rfl) dX10_workOut_96 ?_
              refine am_bipush X (by decide) dX10_workOut_97 ?_
              refine am_callVi (ci := 9) X hY lk_X10_194 mf_X10_takes (m_X10_takes 59 (by decide) j69 f69 o69 τ T n htx (by omega)) (by decide) (by decide) (Nat.le_refl _) (Nat.le_refl _) sh_63 rfl rfl rfl (Nat.le_of_ble_eq_true rfl) dX10_workOut_99 (fun r99 sh99 σ99 hr99 hp99 => ?_)
              obtain ⟨rfl, j99, rfl, hq99⟩ := hp99
              refine am_istore (i := 5) (L' := [some (vr 63), some (vi bs), some (vi (n : Int)), some (vi g), some (vi v), some (vi r99), some (vi r69), some (vi 1)]) X (Nat.le_of_ble_eq_true rfl) (by rfl) dX10_workOut_102 ?_
              refine am_goto (tgt := 33) X dX10_workOut_104 (by decide) ?_
              refine am_fg [true, true, true, true, true, true, false, false] rfl (L' := [some (vr 63), some (vi bs), some (vi (n : Int)), some (vi g), some (vi v), some (vi r99), none, none]) rfl ?_
              exact ih33 _ (by rcases hq99 with ⟨z1, z2, z3, z4, -⟩ | ⟨z1, z2, -⟩ <;> omega) j99 f69 o69 g v r99 (lx_WI_s hL2 hGV hq69 (fun _ _ _ => by decide) (fun _ => Or.inr ⟨fun q => absurd q.2 (by omega), rfl, rfl⟩) hq99) rfl
            · skip
              refine am_ic X (by decide) dX10_workOut_90 ?_
              refine am_istore_n (i := 3) (L' := [some (vr 63), some (vi bs), some (vi (n : Int)), some (vi 1), some (vi v), some (vi mo), some (vi r69), some (vi 1)]) X rfl (Nat.le_of_ble_eq_true rfl) (by rfl) dX10_workOut_91 ?_
              refine am_iload (x := r69) X (by rfl) dX10_workOut_92 ?_
              refine am_istore (i := 4) (L' := [some (vr 63), some (vi bs), some (vi (n : Int)), some (vi 1), some (vi r69), some (vi mo), some (vi r69), some (vi 1)]) X (Nat.le_of_ble_eq_true rfl) (by rfl) dX10_workOut_94 ?_
              refine am_aload_n (x := 63) X (by rfl) dX10_workOut_96 ?_
              refine am_bipush X (by decide) dX10_workOut_97 ?_
              refine am_callVi (ci := 9) X hY lk_X10_194 mf_X10_takes (m_X10_takes 59 (by decide) j69 f69 o69 τ T n htx (by omega)) (by decide) (by decide) (Nat.le_refl _) (Nat.le_refl _) sh_63 rfl rfl rfl (Nat.le_of_ble_eq_true rfl) dX10_workOut_99 (fun r99 sh99 σ99 hr99 hp99 => ?_)
              obtain ⟨rfl, j99, rfl, hq99⟩ := hp99
              refine am_istore (i := 5) (L' := [some (vr 63), some (vi bs), some (vi (n : Int)), some (vi 1), some (vi r69), some (vi r99), some (vi r69), some (vi 1)]) X (Nat.le_of_ble_eq_true rfl) (by rfl) dX10_workOut_102 ?_
              refine am_goto (tgt := 33) X dX10_workOut_104 (by decide) ?_
              refine am_fg [true, true, true, true, true, true, false, false] rfl (L' := [some (vr 63), some (vi bs), some (vi (n : Int)), some (vi 1), some (vi r69), some (vi r99), none, none]) rfl ?_
              exact ih33 _ (by rcases hq99 with ⟨z1, z2, z3, z4, -⟩ | ⟨z1, z2, -⟩ <;> omega) j99 f69 o69 1 r69 r99 (lx_WI_s hL2 hGV hq69 (fun _ _ _ => by decide) (fun _ => Or.inl ⟨⟨hP2.mpr (by omega), by omega⟩, rfl, rfl⟩) hq99) rfl
  refine am_sg (pu τ (0 : Int) (-1) 0) (by rw [← hτ]; exact pu_ini) ?_
  exact hL33 _ 0 (-1) 0 0 0 1 (⟨Nat.zero_le _, by omega, Or.inl ⟨rfl, rfl, rfl, _, lx_Lin_0 T n, Or.inl ⟨rfl, rfl, rfl⟩⟩⟩) rfl

set_option maxHeartbeats 4000000 in
set_option maxRecDepth 100000 in
theorem m_X10_law (σ : am_H) (ht : 0 ≤ σ 63 11 ∧ σ 63 11 ≤ 120) : am_Mi yX10_law cX10_law 4 (some .int) 45 0 0 [vr 63] SH σ (fun r sh' σ' => SH = sh' ∧ (∀ c k : Nat, c ≠ 70 → (c ≠ 63 ∨ k < 11 ∨ k = 12 ∨ 18 < k) → σ' c k = σ c k) ∧ σ' 63 11 = 0 ∧ ((∃ f : Nat, r = -100 - (f : Int) ∧ lx_bad (σ 69) (σ 63 11).toNat f ∧ σ' 63 13 = σ 63 13 ∧ ∀ k, σ' 70 k = σ 70 k) ∨ (r = 1 ∧ (∃ rc, lx_cmp (σ 69) (σ 63 11).toNat = some rc ∧ lx_tot rc) ∧ σ' 63 13 = σ 63 11 ∧ ∀ k : Nat, (k : Int) < σ 63 11 → σ' 70 k = σ 69 k))) := by
  refine am_Mi_of (by decide +kernel) (Nat.le_of_ble_eq_true rfl) (fun K X hY hI hret => ?_)
  show am_G K 0 [some (vr 63), none, none, none] [] SH σ
  obtain ⟨τ, hτ⟩ : ∃ τ, (am_up (am_up σ 63 14 (-1)) 63 16 ((σ 63 11).toNat : Int)) = τ := ⟨_, rfl⟩
  have hnn : ((σ 63 11).toNat : Int) = σ 63 11 := by omega
  have htx : lx_txt τ (σ 69) (σ 63 11).toNat := ⟨by omega, by rw [← hτ]; exact am_up_eq, Or.inl ⟨by rw [← hτ, am_up_k (by omega)]; exact am_up_eq, fun k _ => by rw [← hτ, am_up_k (by omega), am_up_k (by omega)]⟩⟩
  refine am_aload_n (x := 63) X (by rfl) dX10_law_0 ?_
  refine am_ic X (by decide) dX10_law_1 ?_
  refine am_aload_n (x := 63) X (by rfl) dX10_law_2 ?_
  refine am_get (v := σ 63 11) X 63 fl_X10_172 (by decide) sh_63 (by decide) (rfl) dX10_law_3 ?_
  refine am_topi (fun yy hyy => ?_)
  obtain rfl : yy = ((σ 63 11).toNat : Int) := by omega
  refine am_callVi (ci := 9) X hY lk_X10_221 mf_X10_workOut (m_X10_workOut (-1) τ (σ 69) (σ 63 11).toNat σ hτ htx) (by decide) (by decide) (Nat.le_refl _) (Nat.le_refl _) sh_63 rfl rfl rfl (Nat.le_of_ble_eq_true rfl) dX10_law_6 (fun r6 sh6 σ6 hr6 hp6 => ?_)
  obtain ⟨rfl, j6, f6, o6, rfl, hf6, hq6⟩ := hp6
  refine am_istore_n (i := 1) (L' := [some (vr 63), some (vi r6), none, none]) X rfl (Nat.le_of_ble_eq_true rfl) (by rfl) dX10_law_9 ?_
  refine am_aload_n (x := 63) X (by rfl) dX10_law_10 ?_
  refine am_get (v := (σ 63 11)) X 63 fl_X10_172 (by decide) sh_63 (by decide) (by rw [pu_at (by omega), ← hτ, am_up_k (by omega), am_up_k (by omega)]) dX10_law_11 ?_
  refine am_istore_n (i := 2) (L' := [some (vr 63), some (vi r6), some (vi (σ 63 11)), none]) X rfl (Nat.le_of_ble_eq_true rfl) (by rfl) dX10_law_14 ?_
  refine am_aload_n (x := 63) X (by rfl) dX10_law_15 ?_
  refine am_ic X (by decide) dX10_law_16 ?_
  refine am_puti X 63 fl_X10_172 rfl rfl sh_63 (by decide) dX10_law_17 ?_
  refine am_aload_n (x := 63) X (by rfl) dX10_law_20 ?_
  refine am_get (v := f6) X 63 fl_X10_184 (by decide) sh_63 (by decide) (by rw [am_up_k (by omega)]; exact pu_17) dX10_law_21 ?_
  refine am_if_lt (tgt := 35) X dX10_law_24 (by decide) (fun h24 => ?_) (fun h24 => ?_)
  · skip
    refine am_ic X (by decide) dX10_law_35 ?_
    refine am_istore_n (i := 3) (L' := [some (vr 63), some (vi r6), some (vi (σ 63 11)), some (vi 0)]) X rfl (Nat.le_of_ble_eq_true rfl) (by rfl) dX10_law_36 ?_
    have hL37 : ∀ (m37 : Nat) (k : Nat) (hk : (k : Int) ≤ σ 63 11) (hm37 : 120 - k = m37), am_G K 37 [some (vr 63), some (vi r6), some (vi (σ 63 11)), some (vi (k : Int))] [] SH (md_tx (am_up (pu τ (j6 : Int) f6 o6) 63 11 0) k) := by
      intro m37
      induction m37 using Nat.strongRecOn with
      | ind m37 ih37 =>
      intro k hk hm37
      refine am_iload_n (x := (k : Int)) X (by rfl) dX10_law_37 ?_
      refine am_iload_n (x := (σ 63 11)) X (by rfl) dX10_law_38 ?_
      refine am_icmp_ge (tgt := 60) X dX10_law_39 (by decide) (fun h39 => ?_) (fun h39 => ?_)
      · skip
        refine am_aload_n (x := 63) X (by rfl) dX10_law_60 ?_
        refine am_iload_n (x := (σ 63 11)) X (by rfl) dX10_law_61 ?_
        refine am_puti X 63 fl_X10_90 rfl rfl sh_63 (by decide) dX10_law_62 ?_
        refine am_ic X (by decide) dX10_law_65 ?_
        exact hret _ _ _ _ _ dX10_law_66 rfl rfl (⟨rfl, fun c k h1 h2 => by rw [am_up_k (by omega), md_tx_at (by omega), am_up_k (by omega), pu_at (by omega), ← hτ, am_up_k (by omega), am_up_k (by omega)], by rw [am_up_k (by omega), md_tx_at (by decide), am_up_eq], Or.inr ⟨rfl, by rcases hq6 with ⟨fn, z1, -⟩ | ⟨-, c, H, z1, z2, -⟩; omega; exact ⟨c, z1, fun N => ⟨_, z2 N⟩⟩, am_up_eq, fun k hk => by rw [am_up_k (by omega)]; unfold md_tx; rw [if_pos ⟨rfl, by omega⟩]; rw [am_up_k (by omega), pu_at (by omega), ← hτ, am_up_k (by omega), am_up_k (by omega)]⟩⟩)
      · skip
        refine am_aload_n (x := 63) X (by rfl) dX10_law_42 ?_
        refine am_getr (c1 := 70) X 63 fl_X10_28 (by decide) sh_63 (by decide) (by rfl) dX10_law_43 ?_
        refine am_iload_n (x := (k : Int)) X (by rfl) dX10_law_46 ?_
        refine am_aload_n (x := 63) X (by rfl) dX10_law_47 ?_
        refine am_getr (c1 := 69) X 63 fl_X10_25 (by decide) sh_63 (by decide) (by rfl) dX10_law_48 ?_
        refine am_iload_n (x := (k : Int)) X (by rfl) dX10_law_51 ?_
        refine am_ald (v := (σ 69 k)) X 69 k sh_69 (by omega) (by omega) (by rw [md_tx_at (by decide), am_up_k (by omega), pu_at (by omega), ← hτ, am_up_k (by omega), am_up_k (by omega)]) dX10_law_52 ?_
        refine am_ast X 70 k sh_70 (by omega) (by omega) dX10_law_53 ?_
        refine am_inc (x := (k : Int)) (v := ((k : Int) + 1)) (L' := [some (vr 63), some (vi r6), some (vi (σ 63 11)), some (vi ((k : Int) + 1))]) X (by rfl) (by omega) (by omega) (by rfl) dX10_law_54 ?_
        refine am_goto (tgt := 37) X dX10_law_57 (by decide) ?_
        refine am_sg (md_tx (am_up (pu τ (j6 : Int) f6 o6) 63 11 0) (k + 1)) (by rw [show σ 69 k = (am_up (pu τ (j6 : Int) f6 o6) 63 11 0) 69 k from by rw [am_up_k (by omega), pu_at (by omega), ← hτ, am_up_k (by omega), am_up_k (by omega)]]; exact md_tx_s) ?_
        exact ih37 _ (by omega) (k + 1) (by omega) rfl
    refine am_sg (md_tx (am_up (pu τ (j6 : Int) f6 o6) 63 11 0) 0) ((md_tx_0 _).symm) ?_
    exact hL37 _ 0 (by omega) rfl
  · skip
    refine am_bipush X (by decide) dX10_law_27 ?_
    refine am_aload_n (x := 63) X (by rfl) dX10_law_29 ?_
    refine am_get (v := f6) X 63 fl_X10_184 (by decide) sh_63 (by decide) (by rw [am_up_k (by omega)]; exact pu_17) dX10_law_30 ?_
    refine am_sub (v := (-100 - f6)) X (by first | rfl | omega) (by omega) dX10_law_33 ?_
    exact hret _ _ _ _ _ dX10_law_34 rfl rfl (⟨rfl, fun c k h1 h2 => by rw [am_up_k (by omega), pu_at (by omega), ← hτ, am_up_k (by omega), am_up_k (by omega)], am_up_eq, Or.inl (by rcases hq6 with ⟨fn, z1, z2⟩ | ⟨z1, -⟩; exact ⟨fn, by omega, z2, by rw [am_up_k (by omega), pu_at (by omega), ← hτ, am_up_k (by omega), am_up_k (by omega)], fun k => by rw [am_up_k (by omega), pu_at (by omega), ← hτ, am_up_k (by omega), am_up_k (by omega)]⟩; omega)⟩)

set_option maxHeartbeats 4000000 in
set_option maxRecDepth 100000 in
theorem m_X10_worthOf (p q d : Int) (kd kp : Nat) (hkd : (d / 4).toNat = kd) (hkp : p = kp) (hpd : (0 ≤ d ∧ d ≤ 47) ∧ kp < 8) (σ : am_H) (hlaw : MLaw σ) (hls : (0 ≤ σ 64 kd ∧ σ 64 kd ≤ 9) ∧ 0 ≤ σ 64 (12 + kp) ∧ σ 64 (12 + kp) ≤ 9) : am_Mi yX10_worthOf cX10_worthOf 6 (some .int) 45 0 0 [vr 63, vi p, vi q, vi d] SH σ (fun r sh' σ' => SH = sh' ∧ md_fr σ σ' ∧ r = md_wv σ p q d) := by
  refine am_Mi_of (by decide +kernel) (Nat.le_of_ble_eq_true rfl) (fun K X hY hI hret => ?_)
  show am_G K 0 [some (vr 63), some (vi p), some (vi q), some (vi d), none, none] [] SH σ
  refine am_aload_n (x := 63) X (by rfl) dX10_worthOf_0 ?_
  refine am_getr (c1 := 64) X 63 fl_X10_9 (by decide) sh_63 (by decide) (by rfl) dX10_worthOf_1 ?_
  refine am_iload_n (x := d) X (by rfl) dX10_worthOf_4 ?_
  refine am_ic X (by decide) dX10_worthOf_5 ?_
  refine am_div (v := (d / 4)) X (by omega) (by omega) rfl dX10_worthOf_6 ?_
  refine am_ald (v := σ 64 kd) X 64 kd sh_64 (by omega) (by omega) (rfl) dX10_worthOf_7 ?_
  refine am_istore (i := 4) (L' := [some (vr 63), some (vi p), some (vi q), some (vi d), some (vi (σ 64 kd)), none]) X (Nat.le_of_ble_eq_true rfl) (by rfl) dX10_worthOf_8 ?_
  refine am_iload (x := σ 64 kd) X (by rfl) dX10_worthOf_10 ?_
  refine am_aload_n (x := 63) X (by rfl) dX10_worthOf_12 ?_
  refine am_getr (c1 := 64) X 63 fl_X10_9 (by decide) sh_63 (by decide) (by rfl) dX10_worthOf_13 ?_
  refine am_bipush X (by decide) dX10_worthOf_16 ?_
  refine am_iload_n (x := p) X (by rfl) dX10_worthOf_18 ?_
  refine am_add (v := (12 + p)) X (by first | rfl | omega) (by omega) dX10_worthOf_19 ?_
  refine am_ald (v := σ 64 (12 + kp)) X 64 (12 + kp) sh_64 (by omega) (by omega) (rfl) dX10_worthOf_20 ?_
  refine am_mul (v := (σ 64 kd * σ 64 (12 + kp))) X (by first | rfl | omega) (by have h1 : 0 ≤ σ 64 kd * σ 64 (12 + kp) := Int.mul_nonneg (by omega) (by omega); have h2 : σ 64 kd * σ 64 (12 + kp) ≤ 9 * 9 := Int.mul_le_mul (by omega) (by omega) (by omega) (by omega); omega) dX10_worthOf_21 ?_
  refine am_istore (i := 5) (L' := [some (vr 63), some (vi p), some (vi q), some (vi d), some (vi (σ 64 kd)), some (vi (σ 64 kd * σ 64 (12 + kp)))]) X (Nat.le_of_ble_eq_true rfl) (by rfl) dX10_worthOf_22 ?_
  refine am_aload_n (x := 63) X (by rfl) dX10_worthOf_24 ?_
  refine am_get (v := σ 63 13) X 63 fl_X10_90 (by decide) sh_63 (by decide) (rfl) dX10_worthOf_25 ?_
  refine am_if_lt (tgt := 95) X dX10_worthOf_28 (by decide) (fun h28 => ?_) (fun h28 => ?_)
  · skip
    have hwv : σ 63 13 < 0 → md_wv σ p q d = wv_cl (σ 64 kd * σ 64 (12 + kp)) := fun h => by
      unfold md_wv wv_of md_lw
      rw [if_pos h, hkd, show (12 + p).toNat = 12 + kp by omega]
    refine am_iload (x := (σ 64 kd * σ 64 (12 + kp))) X (by rfl) dX10_worthOf_95 ?_
    refine am_if_ge (tgt := 104) X dX10_worthOf_97 (by decide) (fun h97 => ?_) (fun h97 => ?_)
    · skip
      refine am_iload (x := (σ 64 kd * σ 64 (12 + kp))) X (by rfl) dX10_worthOf_104 ?_
      refine am_bipush X (by decide) dX10_worthOf_106 ?_
      refine am_icmp_le (tgt := 116) X dX10_worthOf_108 (by decide) (fun h108 => ?_) (fun h108 => ?_)
      · skip
        refine am_iload (x := (σ 64 kd * σ 64 (12 + kp))) X (by rfl) dX10_worthOf_116 ?_
        exact hret _ _ _ _ _ dX10_worthOf_118 rfl rfl (⟨rfl, md_fr_rf σ, by rw [hwv (by omega)]; unfold wv_cl; (repeat' split) <;> omega⟩)
      · skip
        refine am_bipush X (by decide) dX10_worthOf_111 ?_
        refine am_goto (tgt := 118) X dX10_worthOf_113 (by decide) ?_
        exact hret _ _ _ _ _ dX10_worthOf_118 rfl rfl (⟨rfl, md_fr_rf σ, by rw [hwv (by omega)]; unfold wv_cl; (repeat' split) <;> omega⟩)
    · skip
      refine am_ic X (by decide) dX10_worthOf_100 ?_
      refine am_goto (tgt := 118) X dX10_worthOf_101 (by decide) ?_
      exact hret _ _ _ _ _ dX10_worthOf_118 rfl rfl (⟨rfl, md_fr_rf σ, by rw [hwv (by omega)]; unfold wv_cl; (repeat' split) <;> omega⟩)
  · skip
    obtain ⟨hl1, hl2, rc, hl3, hl4⟩ := Or.resolve_left hlaw (by omega)
    refine am_aload_n (x := 63) X (by rfl) dX10_worthOf_31 ?_
    refine am_getr (c1 := 71) X 63 fl_X10_31 (by decide) sh_63 (by decide) (by rfl) dX10_worthOf_32 ?_
    refine am_ic X (by decide) dX10_worthOf_35 ?_
    refine am_iload_n (x := d) X (by rfl) dX10_worthOf_36 ?_
    refine am_ast X 71 0 sh_71 (by omega) (by omega) dX10_worthOf_37 ?_
    refine am_aload_n (x := 63) X (by rfl) dX10_worthOf_38 ?_
    refine am_getr (c1 := 71) X 63 fl_X10_31 (by decide) sh_63 (by decide) (by rfl) dX10_worthOf_39 ?_
    refine am_ic X (by decide) dX10_worthOf_42 ?_
    refine am_iload_n (x := d) X (by rfl) dX10_worthOf_43 ?_
    refine am_ic X (by decide) dX10_worthOf_44 ?_
    refine am_div (v := (d / 4)) X (by omega) (by omega) rfl dX10_worthOf_45 ?_
    refine am_ast X 71 1 sh_71 (by omega) (by omega) dX10_worthOf_46 ?_
    refine am_aload_n (x := 63) X (by rfl) dX10_worthOf_47 ?_
    refine am_getr (c1 := 71) X 63 fl_X10_31 (by decide) sh_63 (by decide) (by rfl) dX10_worthOf_48 ?_
    refine am_ic X (by decide) dX10_worthOf_51 ?_
    refine am_iload (x := σ 64 kd) X (by rfl) dX10_worthOf_52 ?_
    refine am_ast X 71 2 sh_71 (by omega) (by omega) dX10_worthOf_54 ?_
    refine am_aload_n (x := 63) X (by rfl) dX10_worthOf_55 ?_
    refine am_getr (c1 := 71) X 63 fl_X10_31 (by decide) sh_63 (by decide) (by rfl) dX10_worthOf_56 ?_
    refine am_ic X (by decide) dX10_worthOf_59 ?_
    refine am_aload_n (x := 63) X (by rfl) dX10_worthOf_60 ?_
    refine am_getr (c1 := 64) X 63 fl_X10_9 (by decide) sh_63 (by decide) (by rfl) dX10_worthOf_61 ?_
    refine am_bipush X (by decide) dX10_worthOf_64 ?_
    refine am_iload_n (x := p) X (by rfl) dX10_worthOf_66 ?_
    refine am_add (v := (12 + p)) X (by first | rfl | omega) (by omega) dX10_worthOf_67 ?_
    refine am_ald (v := σ 64 (12 + kp)) X 64 (12 + kp) sh_64 (by omega) (by omega) (by simp [am_up]) dX10_worthOf_68 ?_
    refine am_ast X 71 3 sh_71 (by omega) (by omega) dX10_worthOf_69 ?_
    refine am_aload_n (x := 63) X (by rfl) dX10_worthOf_70 ?_
    refine am_getr (c1 := 71) X 63 fl_X10_31 (by decide) sh_63 (by decide) (by rfl) dX10_worthOf_71 ?_
    refine am_ic X (by decide) dX10_worthOf_74 ?_
    refine am_iload_n (x := p) X (by rfl) dX10_worthOf_75 ?_
    refine am_ast X 71 4 sh_71 (by omega) (by omega) dX10_worthOf_76 ?_
    refine am_aload_n (x := 63) X (by rfl) dX10_worthOf_77 ?_
    refine am_getr (c1 := 71) X 63 fl_X10_31 (by decide) sh_63 (by decide) (by rfl) dX10_worthOf_78 ?_
    refine am_ic X (by decide) dX10_worthOf_81 ?_
    refine am_iload_n (x := q) X (by rfl) dX10_worthOf_82 ?_
    refine am_ast X 71 5 sh_71 (by omega) (by omega) dX10_worthOf_83 ?_
    obtain ⟨τ, hτ⟩ : ∃ τ, am_up (am_up (am_up (am_up (am_up (am_up (am_up (am_up σ 71 0 d) 71 1 (d / 4)) 71 2 (σ 64 kd)) 71 3 (σ 64 (12 + kp))) 71 4 p) 71 5 q) 63 14 0) 63 16 ((σ 63 13).toNat : Int) = τ := ⟨_, rfl⟩
    have hnn : ((σ 63 13).toNat : Int) = σ 63 13 := by omega
    have htx : lx_txt τ (σ 70) (σ 63 13).toNat := ⟨by omega, by rw [← hτ]; exact am_up_eq, Or.inr ⟨by rw [← hτ, am_up_k (by omega)]; exact am_up_eq, fun k _ => by rw [← hτ]; simp [am_up]⟩⟩
    refine am_aload_n (x := 63) X (by rfl) dX10_worthOf_84 ?_
    refine am_ic X (by decide) dX10_worthOf_85 ?_
    refine am_aload_n (x := 63) X (by rfl) dX10_worthOf_86 ?_
    refine am_get (v := σ 63 13) X 63 fl_X10_90 (by decide) sh_63 (by decide) (by simp [am_up]) dX10_worthOf_87 ?_
    refine am_topi (fun yy hyy => ?_)
    obtain rfl : yy = ((σ 63 13).toNat : Int) := by omega
    refine am_callVi (ci := 9) X hY lk_X10_221 mf_X10_workOut (m_X10_workOut 0 τ (σ 70) (σ 63 13).toNat (am_up (am_up (am_up (am_up (am_up (am_up σ 71 0 d) 71 1 (d / 4)) 71 2 (σ 64 kd)) 71 3 (σ 64 (12 + kp))) 71 4 p) 71 5 q) hτ htx) (by decide) (by decide) (Nat.le_refl _) (Nat.le_refl _) sh_63 rfl rfl rfl (Nat.le_of_ble_eq_true rfl) dX10_worthOf_90 (fun r90 sh90 σ90 hr90 hp90 => ?_)
    obtain ⟨rfl, j90, f90, o90, rfl, hf90, hq90⟩ := hp90
    have hfr90 : md_fr σ (pu τ (j90 : Int) f90 o90) := fun c k h1 h2 => by
      rw [pu_at (by omega), ← hτ, am_up_k (by omega), am_up_k (by omega), am_up_k (by omega), am_up_k (by omega), am_up_k (by omega), am_up_k (by omega), am_up_k (by omega), am_up_k (by omega)]
    have hw90 : md_wv σ p q d = wv_cl r90 := by
      rcases hq90 with ⟨fn, -, z⟩ | ⟨-, c, H, z1, z2, z3⟩
      · exact (lx_bad_cmp z hl3).elim
      · cases hl3.symm.trans z1
        have hN : ∀ k : Nat, k < 6 → τ 71 k = lx_N d (σ 64 kd) (σ 64 (12 + kp)) p q k := fun k hk => by
          rw [← hτ]
          rcases (show k = 0 ∨ k = 1 ∨ k = 2 ∨ k = 3 ∨ k = 4 ∨ k = 5 by omega) with rfl | rfl | rfl | rfl | rfl | rfl <;> simp [am_up, lx_N]
        have hz := (lx_ex_congr hN rc.reverse [] 0).symm.trans (z2 (τ 71))
        unfold md_wv wv_of md_lw
        rw [if_neg (by omega), hl3, hkd, show (12 + p).toNat = 12 + kp by omega]
        show wv_cl ((lx_ex (lx_N d (σ 64 kd) (σ 64 (12 + kp)) p q) rc.reverse [] 0).getD 0) = _
        rw [hz, z3]; rfl
    refine am_istore (i := 5) (L' := [some (vr 63), some (vi p), some (vi q), some (vi d), some (vi (σ 64 kd)), some (vi r90)]) X (Nat.le_of_ble_eq_true rfl) (by rfl) dX10_worthOf_93 ?_
    
    refine am_iload (x := r90) X (by rfl) dX10_worthOf_95 ?_
    refine am_if_ge (tgt := 104) X dX10_worthOf_97 (by decide) (fun h97 => ?_) (fun h97 => ?_)
    · skip
      refine am_iload (x := r90) X (by rfl) dX10_worthOf_104 ?_
      refine am_bipush X (by decide) dX10_worthOf_106 ?_
      refine am_icmp_le (tgt := 116) X dX10_worthOf_108 (by decide) (fun h108 => ?_) (fun h108 => ?_)
      · skip
        refine am_iload (x := r90) X (by rfl) dX10_worthOf_116 ?_
        exact hret _ _ _ _ _ dX10_worthOf_118 rfl rfl (⟨rfl, hfr90, by rw [hw90]; unfold wv_cl; (repeat' split) <;> omega⟩)
      · skip
        refine am_bipush X (by decide) dX10_worthOf_111 ?_
        refine am_goto (tgt := 118) X dX10_worthOf_113 (by decide) ?_
        exact hret _ _ _ _ _ dX10_worthOf_118 rfl rfl (⟨rfl, hfr90, by rw [hw90]; unfold wv_cl; (repeat' split) <;> omega⟩)
    · skip
      refine am_ic X (by decide) dX10_worthOf_100 ?_
      refine am_goto (tgt := 118) X dX10_worthOf_101 (by decide) ?_
      exact hret _ _ _ _ _ dX10_worthOf_118 rfl rfl (⟨rfl, hfr90, by rw [hw90]; unfold wv_cl; (repeat' split) <;> omega⟩)

set_option maxHeartbeats 4000000 in
set_option maxRecDepth 100000 in
theorem m_X10_worth (a b : Int) (σ : am_H) (hp : 0 ≤ σ 63 6 ∧ σ 63 6 ≤ 8) (hlaw : MLaw σ) (hls : (∀ k, k < 12 → 1 ≤ σ 64 k ∧ σ 64 k ≤ 9) ∧ ∀ k : Nat, (k : Int) < σ 63 6 → 1 ≤ σ 64 (12 + k) ∧ σ 64 (12 + k) ≤ 9) : am_Mi yX10_worth cX10_worth 3 (some .int) 46 0 0 [vr 63, vi a, vi b] SH σ (fun r sh' σ' => SH = sh' ∧ md_fr σ σ' ∧ r = (if md_pair σ a ∧ 0 ≤ b ∧ b ≤ 47 then md_wv σ (a / 10) (a % 10) b else -1)) := by
  refine am_Mi_of (by decide +kernel) (Nat.le_of_ble_eq_true rfl) (fun K X hY hI hret => ?_)
  show am_G K 0 [some (vr 63), some (vi a), some (vi b)] [] SH σ
  refine am_aload_n (x := 63) X (by rfl) dX10_worth_0 ?_
  refine am_iload_n (x := a) X (by rfl) dX10_worth_1 ?_
  refine am_callVi (ci := 9) X hY lk_X10_164 mf_X10_isPq (m_X10_isPq a σ hp) (by decide) (by decide) (Nat.le_refl _) (Nat.le_refl _) sh_63 rfl rfl rfl (Nat.le_of_ble_eq_true rfl) dX10_worth_2 (fun r2 sh2 σ2 hr2 hp2 => ?_)
  obtain ⟨rfl, rfl, hq2⟩ := hp2
  refine am_if_eq (tgt := 31) X dX10_worth_5 (by decide) (fun h5 => ?_) (fun h5 => ?_)
  · skip
    refine am_ic X (by decide) dX10_worth_31 ?_
    exact hret _ _ _ _ _ dX10_worth_32 rfl rfl (⟨rfl, md_fr_rf σ, by rw [if_neg (by omega)]⟩)
  · skip
    refine am_iload_n (x := b) X (by rfl) dX10_worth_8 ?_
    refine am_callSi X hY lk_X10_224 mf_X10_isDay (m_X10_isDay b _ σ) (by decide) (by decide) (Nat.le_refl _) (Nat.le_refl _) rfl rfl (Nat.le_of_ble_eq_true rfl) dX10_worth_9 (fun r9 sh9 σ9 hr9 hp9 => ?_)
    obtain ⟨rfl, rfl, hq9⟩ := hp9
    refine am_if_eq (tgt := 31) X dX10_worth_12 (by decide) (fun h12 => ?_) (fun h12 => ?_)
    · skip
      refine am_ic X (by decide) dX10_worth_31 ?_
      exact hret _ _ _ _ _ dX10_worth_32 rfl rfl (⟨rfl, md_fr_rf σ, by rw [if_neg (by omega)]⟩)
    · skip
      refine am_aload_n (x := 63) X (by rfl) dX10_worth_15 ?_
      refine am_iload_n (x := a) X (by rfl) dX10_worth_16 ?_
      refine am_bipush X (by decide) dX10_worth_17 ?_
      refine am_div (v := (a / 10)) X (by omega) (by omega) rfl dX10_worth_19 ?_
      refine am_iload_n (x := a) X (by rfl) dX10_worth_20 ?_
      refine am_bipush X (by decide) dX10_worth_21 ?_
      refine am_rem (v := (a % 10)) X (by omega) (by omega) rfl dX10_worth_23 ?_
      refine am_iload_n (x := b) X (by rfl) dX10_worth_24 ?_
      refine am_callVi (ci := 9) X hY lk_X10_227 mf_X10_worthOf (m_X10_worthOf (a / 10) (a % 10) b (b / 4).toNat (a / 10).toNat rfl (by omega) (by omega) σ hlaw (by have h1 := hls.1 (b / 4).toNat (by omega); have h2 := hls.2 (a / 10).toNat (by omega); omega)) (by decide) (by decide) (Nat.le_refl _) (Nat.le_refl _) sh_63 rfl rfl rfl (Nat.le_of_ble_eq_true rfl) dX10_worth_25 (fun r25 sh25 σ25 hr25 hp25 => ?_)
      obtain ⟨rfl, hf25, hq25⟩ := hp25
      refine am_goto (tgt := 32) X dX10_worth_28 (by decide) ?_
      exact hret _ _ _ _ _ dX10_worth_32 rfl rfl (⟨rfl, hf25, by rw [if_pos (by omega)]; exact hq25⟩)

set_option maxHeartbeats 4000000 in
set_option maxRecDepth 100000 in
theorem m_X9_worthOf (p q d : Int) (kd kp : Nat) (hkd : (d / 4).toNat = kd) (hkp : p = kp) (hpd : (0 ≤ d ∧ d ≤ 47) ∧ kp < 8) (σ : am_H) (hlaw : CLaw σ) (hls : (0 ≤ σ 2 kd ∧ σ 2 kd ≤ 9) ∧ 0 ≤ σ 3 kp ∧ σ 3 kp ≤ 9) : am_Mi yX9_worthOf cX9_worthOf 7 (some .int) 2 0 0 [vr 0, vi p, vi q, vi d] SH σ (fun r sh' σ' => SH = sh' ∧ c_fr σ σ' ∧ r = c_wv σ p q d) := by
  refine am_Mi_of (by decide +kernel) (Nat.le_of_ble_eq_true rfl) (fun K X hY hI hret => ?_)
  show am_G K 0 [some (vr 0), some (vi p), some (vi q), some (vi d), none, none, none] [] SH σ
  refine am_aload_n (x := 0) X (by rfl) dX9_worthOf_0 ?_
  refine am_getr (c1 := 1) X 0 fl_X9_10 (by decide) sh_0 (by decide) (by rfl) dX9_worthOf_1 ?_
  refine am_getr (c1 := 2) X 1 fl_X9_383 (by decide) sh_1 (by decide) (by rfl) dX9_worthOf_4 ?_
  refine am_iload_n (x := d) X (by rfl) dX9_worthOf_7 ?_
  refine am_ic X (by decide) dX9_worthOf_8 ?_
  refine am_div (v := (d / 4)) X (by omega) (by omega) rfl dX9_worthOf_9 ?_
  refine am_ald (v := σ 2 kd) X 2 kd sh_2 (by omega) (by omega) (rfl) dX9_worthOf_10 ?_
  refine am_istore (i := 4) (L' := [some (vr 0), some (vi p), some (vi q), some (vi d), some (vi (σ 2 kd)), none, none]) X (Nat.le_of_ble_eq_true rfl) (by rfl) dX9_worthOf_11 ?_
  refine am_aload_n (x := 0) X (by rfl) dX9_worthOf_13 ?_
  refine am_getr (c1 := 1) X 0 fl_X9_10 (by decide) sh_0 (by decide) (by rfl) dX9_worthOf_14 ?_
  refine am_getr (c1 := 3) X 1 fl_X9_367 (by decide) sh_1 (by decide) (by rfl) dX9_worthOf_17 ?_
  refine am_iload_n (x := p) X (by rfl) dX9_worthOf_20 ?_
  refine am_ald (v := σ 3 kp) X 3 kp sh_3 (by omega) (by omega) (rfl) dX9_worthOf_21 ?_
  refine am_istore (i := 5) (L' := [some (vr 0), some (vi p), some (vi q), some (vi d), some (vi (σ 2 kd)), some (vi (σ 3 kp)), none]) X (Nat.le_of_ble_eq_true rfl) (by rfl) dX9_worthOf_22 ?_
  refine am_aload_n (x := 0) X (by rfl) dX9_worthOf_24 ?_
  refine am_getr (c1 := 9) X 0 fl_X9_26 (by decide) sh_0 (by decide) (by rfl) dX9_worthOf_25 ?_
  refine am_callVi (ci := 3) X hY lk_X9_386 mf_X3_isGiven (m_X3_isGiven σ) (by decide) (by decide) (Nat.le_refl _) (Nat.le_refl _) sh_9 rfl rfl rfl (Nat.le_of_ble_eq_true rfl) dX9_worthOf_28 (fun r28 sh28 σ28 hr28 hp28 => ?_)
  obtain ⟨rfl, rfl, hq28⟩ := hp28
  refine am_if_eq (tgt := 51) X dX9_worthOf_31 (by decide) (fun h31 => ?_) (fun h31 => ?_)
  · skip
    have hg := am_b0 hq28 (by omega)
    have hwv : c_wv σ p q d = wv_cl (σ 2 kd * σ 3 kp) := by
      unfold c_wv wv_of c_lw
      rw [if_neg hg, hkd, show p.toNat = kp by omega]
    refine am_iload (x := σ 2 kd) X (by rfl) dX9_worthOf_51 ?_
    refine am_iload (x := σ 3 kp) X (by rfl) dX9_worthOf_53 ?_
    refine am_mul (v := (σ 2 kd * σ 3 kp)) X (by first | rfl | omega) (by have h1 : 0 ≤ σ 2 kd * σ 3 kp := Int.mul_nonneg (by omega) (by omega); have h2 : σ 2 kd * σ 3 kp ≤ 9 * 9 := Int.mul_le_mul (by omega) (by omega) (by omega) (by omega); omega) dX9_worthOf_55 ?_
    refine am_istore (i := 6) (L' := [some (vr 0), some (vi p), some (vi q), some (vi d), some (vi (σ 2 kd)), some (vi (σ 3 kp)), some (vi (σ 2 kd * σ 3 kp))]) X (Nat.le_of_ble_eq_true rfl) (by rfl) dX9_worthOf_56 ?_
    refine am_ic X (by decide) dX9_worthOf_58 ?_
    refine am_bipush X (by decide) dX9_worthOf_59 ?_
    refine am_iload (x := (σ 2 kd * σ 3 kp)) X (by rfl) dX9_worthOf_61 ?_
    refine am_mmin X hY lk_X9_298 (by decide) (Nat.le_add_right _ _) (Nat.le_add_right _ _) (Nat.le_of_ble_eq_true rfl) dX9_worthOf_63 ?_
    refine am_topi (fun y63 hy63 => ?_)
    refine am_mmax X hY lk_X9_393 (by decide) (Nat.le_add_right _ _) (Nat.le_add_right _ _) (Nat.le_of_ble_eq_true rfl) dX9_worthOf_66 ?_
    refine am_topi (fun y66 hy66 => ?_)
    exact hret _ _ _ _ _ dX9_worthOf_69 rfl rfl (⟨rfl, c_fr_rf σ, by rw [hwv]; unfold wv_cl; (repeat' split) <;> omega⟩)
  · skip
    have hg := am_b1 hq28 (by omega)
    obtain ⟨hl1, hl2, hl3, hl4⟩ := Or.resolve_left hlaw (by omega)
    obtain ⟨vv, hvv⟩ := hl4 (lx_N d (σ 2 kd) (σ 3 kp) p q)
    have hwv : c_wv σ p q d = wv_cl vv := by
      unfold c_wv wv_of c_lw
      rw [if_pos hg, hkd, show p.toNat = kp by omega]
      show wv_cl ((lx_ex (lx_N d (σ 2 kd) (σ 3 kp) p q) _ [] 0).getD 0) = _
      rw [hvv]; rfl
    have hrl := rcl_len σ 11 (σ 9 7).toNat
    refine am_aload_n (x := 0) X (by rfl) dX9_worthOf_34 ?_
    refine am_getr (c1 := 9) X 0 fl_X9_26 (by decide) sh_0 (by decide) (by rfl) dX9_worthOf_35 ?_
    refine am_iload_n (x := d) X (by rfl) dX9_worthOf_38 ?_
    refine am_iload (x := σ 2 kd) X (by rfl) dX9_worthOf_39 ?_
    refine am_iload (x := σ 3 kp) X (by rfl) dX9_worthOf_41 ?_
    refine am_iload_n (x := p) X (by rfl) dX9_worthOf_43 ?_
    refine am_iload_n (x := q) X (by rfl) dX9_worthOf_44 ?_
    refine am_callVi (ci := 3) X hY lk_X9_389 mf_X3_value (m_X3_value d (σ 2 kd) (σ 3 kp) p q vv (by omega) σ (rcl σ 11 (σ 9 7).toNat) ⟨by omega, by rw [hrl], by omega⟩ (Or.inl hl3) hvv) (by decide) (by decide) (Nat.le_refl _) (Nat.le_refl _) sh_9 rfl rfl rfl (Nat.le_of_ble_eq_true rfl) dX9_worthOf_45 (fun r45 sh45 σ45 hr45 hp45 => ?_)
    obtain ⟨rfl, hq45⟩ := hp45
    refine am_goto (tgt := 56) X dX9_worthOf_48 (by decide) ?_
    refine am_istore (i := 6) (L' := [some (vr 0), some (vi p), some (vi q), some (vi d), some (vi (σ 2 kd)), some (vi (σ 3 kp)), some (vi r45)]) X (Nat.le_of_ble_eq_true rfl) (by rfl) dX9_worthOf_56 ?_
    refine am_ic X (by decide) dX9_worthOf_58 ?_
    refine am_bipush X (by decide) dX9_worthOf_59 ?_
    refine am_iload (x := r45) X (by rfl) dX9_worthOf_61 ?_
    refine am_mmin X hY lk_X9_298 (by decide) (Nat.le_add_right _ _) (Nat.le_add_right _ _) (Nat.le_of_ble_eq_true rfl) dX9_worthOf_63 ?_
    refine am_topi (fun y63 hy63 => ?_)
    refine am_mmax X hY lk_X9_393 (by decide) (Nat.le_add_right _ _) (Nat.le_add_right _ _) (Nat.le_of_ble_eq_true rfl) dX9_worthOf_66 ?_
    refine am_topi (fun y66 hy66 => ?_)
    exact hret _ _ _ _ _ dX9_worthOf_69 rfl rfl (⟨rfl, hq45.1, by rw [hwv, ← hq45.2]; unfold wv_cl; (repeat' split) <;> omega⟩)

set_option maxHeartbeats 4000000 in
set_option maxRecDepth 100000 in
theorem m_X9_worth (a b : Int) (σ : am_H) (hp : 0 ≤ σ 1 2 ∧ σ 1 2 ≤ 8) (hlaw : CLaw σ) (hls : (∀ k, k < 12 → 1 ≤ σ 2 k ∧ σ 2 k ≤ 9) ∧ ∀ k : Nat, (k : Int) < σ 1 2 → 1 ≤ σ 3 k ∧ σ 3 k ≤ 9) : am_Mi yX9_worth cX9_worth 3 (some .int) 4 0 0 [vr 0, vi a, vi b] SH σ (fun r sh' σ' => SH = sh' ∧ c_fr σ σ' ∧ r = (if c_pair σ a ∧ 0 ≤ b ∧ b ≤ 47 then c_wv σ (a / 10) (a % 10) b else -1)) := by
  refine am_Mi_of (by decide +kernel) (Nat.le_of_ble_eq_true rfl) (fun K X hY hI hret => ?_)
  show am_G K 0 [some (vr 0), some (vi a), some (vi b)] [] SH σ
  refine am_aload_n (x := 0) X (by rfl) dX9_worth_0 ?_
  refine am_getr (c1 := 1) X 0 fl_X9_10 (by decide) sh_0 (by decide) (by rfl) dX9_worth_1 ?_
  refine am_iload_n (x := a) X (by rfl) dX9_worth_4 ?_
  refine am_callVi (ci := 5) X hY lk_X9_87 mf_X6_isPair (m_X6_isPair a σ hp) (by decide) (by decide) (Nat.le_refl _) (Nat.le_refl _) sh_1 rfl rfl rfl (Nat.le_of_ble_eq_true rfl) dX9_worth_5 (fun r5 sh5 σ5 hr5 hp5 => ?_)
  obtain ⟨rfl, rfl, hq5⟩ := hp5
  refine am_if_eq (tgt := 18) X dX9_worth_8 (by decide) (fun h8 => ?_) (fun h8 => ?_)
  · skip
    refine am_ic X (by decide) dX9_worth_18 ?_
    exact hret _ _ _ _ _ dX9_worth_19 rfl rfl (⟨rfl, c_fr_rf σ, by rw [if_neg (by omega)]⟩)
  · skip
    refine am_iload_n (x := b) X (by rfl) dX9_worth_11 ?_
    refine am_callSi X hY lk_X9_168 mf_X9_isDay (m_X9_isDay b _ σ) (by decide) (by decide) (Nat.le_refl _) (Nat.le_refl _) rfl rfl (Nat.le_of_ble_eq_true rfl) dX9_worth_12 (fun r12 sh12 σ12 hr12 hp12 => ?_)
    obtain ⟨rfl, rfl, hq12⟩ := hp12
    refine am_if_ne (tgt := 20) X dX9_worth_15 (by decide) (fun h15 => ?_) (fun h15 => ?_)
    · skip
      refine am_aload_n (x := 0) X (by rfl) dX9_worth_20 ?_
      refine am_iload_n (x := a) X (by rfl) dX9_worth_21 ?_
      refine am_bipush X (by decide) dX9_worth_22 ?_
      refine am_div (v := (a / 10)) X (by omega) (by omega) rfl dX9_worth_24 ?_
      refine am_iload_n (x := a) X (by rfl) dX9_worth_25 ?_
      refine am_bipush X (by decide) dX9_worth_26 ?_
      refine am_rem (v := (a % 10)) X (by omega) (by omega) rfl dX9_worth_28 ?_
      refine am_iload_n (x := b) X (by rfl) dX9_worth_29 ?_
      refine am_callVi (ci := 8) X hY lk_X9_171 mf_X9_worthOf (m_X9_worthOf (a / 10) (a % 10) b (b / 4).toNat (a / 10).toNat rfl (by omega) (by omega) σ hlaw (by have h1 := hls.1 (b / 4).toNat (by omega); have h2 := hls.2 (a / 10).toNat (by omega); omega)) (by decide) (by decide) (Nat.le_refl _) (Nat.le_refl _) sh_0 rfl rfl rfl (Nat.le_of_ble_eq_true rfl) dX9_worth_30 (fun r30 sh30 σ30 hr30 hp30 => ?_)
      obtain ⟨rfl, hf30, hq30⟩ := hp30
      exact hret _ _ _ _ _ dX9_worth_33 rfl rfl (⟨rfl, hf30, by rw [if_pos (by omega)]; exact hq30⟩)
    · skip
      refine am_ic X (by decide) dX9_worth_18 ?_
      exact hret _ _ _ _ _ dX9_worth_19 rfl rfl (⟨rfl, c_fr_rf σ, by rw [if_neg (by omega)]⟩)

set_option maxHeartbeats 4000000 in
set_option maxRecDepth 100000 in
theorem m_X9_law (σ : am_H) (hta : 0 ≤ σ 9 6 ∧ σ 9 6 ≤ 120) : am_Mi yX9_law cX9_law 1 (some .int) 6 0 0 [vr 0] SH σ (fun r sh' σ' => SH = sh' ∧ ((∀ c k : Nat, c ≠ 9 → c ≠ 11 → c ≠ 12 → c ≠ 13 → σ' c k = σ c k) ∧ σ' 9 6 = 0) ∧ ((∃ f : Nat, r = -100 - (f : Int) ∧ lx_bad (σ 10) (σ 9 6).toNat f ∧ σ' 9 7 = σ 9 7 ∧ ∀ k, σ' 11 k = σ 11 k) ∨ (r = 1 ∧ ∃ rc, lx_cmp (σ 10) (σ 9 6).toNat = some rc ∧ σ' 9 7 = (rc.length : Int) ∧ rc = rcl σ' 11 rc.length ∧ rc.length ≤ 121))) := by
  refine am_Mi_of (by decide +kernel) (Nat.le_of_ble_eq_true rfl) (fun K X hY hI hret => ?_)
  show am_G K 0 [some (vr 0)] [] SH σ
  refine am_aload_n (x := 0) X (by rfl) dX9_law_0 ?_
  refine am_getr (c1 := 9) X 0 fl_X9_26 (by decide) sh_0 (by decide) (by rfl) dX9_law_1 ?_
  refine am_callVi (ci := 3) X hY lk_X9_164 mf_X3_adoptTape (m_X3_adoptTape σ hta) (by decide) (by decide) (Nat.le_refl _) (Nat.le_refl _) sh_9 rfl rfl rfl (Nat.le_of_ble_eq_true rfl) dX9_law_4 (fun r4 sh4 σ4 hr4 hp4 => ?_)
  obtain ⟨rfl, hq4⟩ := hp4
  exact hret _ _ _ _ _ dX9_law_7 rfl rfl (⟨rfl, hq4⟩)
