set_option maxHeartbeats 4000000 in
set_option maxRecDepth 100000 in
theorem m_X10_byteAt (i : Nat) (f o : Int) (σ : am_H) (T : Nat → Int) (n : Nat) (htx : lx_txt σ T n) (hi : i ≤ n) : am_Mi yX10_byteAt cX10_byteAt 1 (some .int) 0 0 0 [vr 63] SH (pu σ (i : Int) f o) (fun r sh' σ' => SH = sh' ∧ (pu σ (i : Int) f o) = σ' ∧ r = lx_at T n i) := by
  refine am_Mi_of (by decide +kernel) (Nat.le_of_ble_eq_true rfl) (fun K X hY hI hret => ?_)
  show am_G K 0 [some (vr 63)] [] SH (pu σ (i : Int) f o)
  obtain ⟨h1, h2, h3⟩ := htx
  have hbb : σ 63 14 = -1 ∨ σ 63 14 = 0 := by rcases h3 with ⟨z, -⟩ | ⟨z, -⟩ <;> omega
  refine am_aload_n (x := 63) X (by rfl) dX10_byteAt_0 ?_
  refine am_get (v := (i : Int)) X 63 fl_X10_175 (by decide) sh_63 (by decide) (pu_15) dX10_byteAt_1 ?_
  refine am_aload_n (x := 63) X (by rfl) dX10_byteAt_4 ?_
  refine am_get (v := (σ 63 16)) X 63 fl_X10_178 (by decide) sh_63 (by decide) (pu_at (Or.inr (by decide))) dX10_byteAt_5 ?_
  refine am_icmp_ge (tgt := 47) X dX10_byteAt_8 (by decide) (fun h8 => ?_) (fun h8 => ?_)
  · skip
    refine am_ic X (by decide) dX10_byteAt_47 ?_
    exact hret _ _ _ _ _ dX10_byteAt_48 rfl rfl (by refine ⟨rfl, rfl, ?_⟩; unfold lx_at; rw [if_neg (by omega)])
  · skip
    refine am_aload_n (x := 63) X (by rfl) dX10_byteAt_11 ?_
    refine am_get (v := (σ 63 14)) X 63 fl_X10_181 (by decide) sh_63 (by decide) (pu_at (Or.inr (by decide))) dX10_byteAt_12 ?_
    refine am_if_ge (tgt := 30) X dX10_byteAt_15 (by decide) (fun h15 => ?_) (fun h15 => ?_)
    · skip
      refine am_aload_n (x := 63) X (by rfl) dX10_byteAt_30 ?_
      refine am_getr (c1 := 70) X 63 fl_X10_28 (by decide) sh_63 (by decide) (by rfl) dX10_byteAt_31 ?_
      refine am_aload_n (x := 63) X (by rfl) dX10_byteAt_34 ?_
      refine am_get (v := (σ 63 14)) X 63 fl_X10_181 (by decide) sh_63 (by decide) (pu_at (Or.inr (by decide))) dX10_byteAt_35 ?_
      refine am_aload_n (x := 63) X (by rfl) dX10_byteAt_38 ?_
      refine am_get (v := (i : Int)) X 63 fl_X10_175 (by decide) sh_63 (by decide) (pu_15) dX10_byteAt_39 ?_
      refine am_add (v := ((σ 63 14) + (i : Int))) X (by first | rfl | omega) (by omega) dX10_byteAt_42 ?_
      refine am_ald (v := (σ 70 i)) X 70 i sh_70 (by omega) (by omega) (pu_at (Or.inl (by decide))) dX10_byteAt_43 ?_
      refine am_goto (tgt := 48) X dX10_byteAt_44 (by decide) ?_
      exact hret _ _ _ _ _ dX10_byteAt_48 rfl rfl (by refine ⟨rfl, rfl, ?_⟩; unfold lx_at; rw [if_pos (by omega)]; rcases h3 with ⟨z, hz⟩ | ⟨z, hz⟩; exact absurd z (by omega); exact hz i (by omega))
    · skip
      refine am_aload_n (x := 63) X (by rfl) dX10_byteAt_18 ?_
      refine am_getr (c1 := 69) X 63 fl_X10_25 (by decide) sh_63 (by decide) (by rfl) dX10_byteAt_19 ?_
      refine am_aload_n (x := 63) X (by rfl) dX10_byteAt_22 ?_
      refine am_get (v := (i : Int)) X 63 fl_X10_175 (by decide) sh_63 (by decide) (pu_15) dX10_byteAt_23 ?_
      refine am_ald (v := (σ 69 i)) X 69 i sh_69 (by omega) (by omega) (pu_at (Or.inl (by decide))) dX10_byteAt_26 ?_
      refine am_goto (tgt := 48) X dX10_byteAt_27 (by decide) ?_
      exact hret _ _ _ _ _ dX10_byteAt_48 rfl rfl (by refine ⟨rfl, rfl, ?_⟩; unfold lx_at; rw [if_pos (by omega)]; rcases h3 with ⟨z, hz⟩ | ⟨z, hz⟩; exact hz i (by omega); exact absurd z (by omega))

set_option maxHeartbeats 4000000 in
set_option maxRecDepth 100000 in
theorem m_X10_wrong (i : Nat) (f o : Int) (σ : am_H) (hf : -1 ≤ f ∧ f ≤ 120) (hi : i ≤ 120) : am_Mi yX10_wrong cX10_wrong 1 (some .int) 0 0 0 [vr 63] SH (pu σ (i : Int) f o) (fun r sh' σ' => SH = sh' ∧ (pu σ (i : Int) (if f < 0 then (i : Int) else f) o) = σ' ∧ r = 0) := by
  refine am_Mi_of (by decide +kernel) (Nat.le_of_ble_eq_true rfl) (fun K X hY hI hret => ?_)
  show am_G K 0 [some (vr 63)] [] SH (pu σ (i : Int) f o)
  refine am_aload_n (x := 63) X (by rfl) dX10_wrong_0 ?_
  refine am_aload_n (x := 63) X (by rfl) dX10_wrong_1 ?_
  refine am_get (v := f) X 63 fl_X10_184 (by decide) sh_63 (by decide) (pu_17) dX10_wrong_2 ?_
  refine am_if_ge (tgt := 15) X dX10_wrong_5 (by decide) (fun h5 => ?_) (fun h5 => ?_)
  · skip
    refine am_aload_n (x := 63) X (by rfl) dX10_wrong_15 ?_
    refine am_get (v := f) X 63 fl_X10_184 (by decide) sh_63 (by decide) (pu_17) dX10_wrong_16 ?_
    refine am_puti X 63 fl_X10_184 rfl rfl sh_63 (by decide) dX10_wrong_19 ?_
    refine am_sg (pu σ (i : Int) f o) (pu_s17) ?_
    refine am_ic X (by decide) dX10_wrong_22 ?_
    exact hret _ _ _ _ _ dX10_wrong_23 rfl rfl (by first | (rw [if_pos (by omega)]; exact ⟨rfl, rfl, rfl⟩) | (rw [if_neg (by omega)]; exact ⟨rfl, rfl, rfl⟩))
  · skip
    refine am_aload_n (x := 63) X (by rfl) dX10_wrong_8 ?_
    refine am_get (v := (i : Int)) X 63 fl_X10_175 (by decide) sh_63 (by decide) (pu_15) dX10_wrong_9 ?_
    refine am_goto (tgt := 19) X dX10_wrong_12 (by decide) ?_
    refine am_puti X 63 fl_X10_184 rfl rfl sh_63 (by decide) dX10_wrong_19 ?_
    refine am_sg (pu σ (i : Int) (i : Int) o) (pu_s17) ?_
    refine am_ic X (by decide) dX10_wrong_22 ?_
    exact hret _ _ _ _ _ dX10_wrong_23 rfl rfl (by first | (rw [if_pos (by omega)]; exact ⟨rfl, rfl, rfl⟩) | (rw [if_neg (by omega)]; exact ⟨rfl, rfl, rfl⟩))

set_option maxHeartbeats 4000000 in
set_option maxRecDepth 100000 in
theorem m_X10_takes (x : Int) (hx : x ≠ 0) (i : Nat) (f o : Int) (σ : am_H) (T : Nat → Int) (n : Nat) (htx : lx_txt σ T n) (hi : i ≤ n) : am_Mi yX10_takes cX10_takes 2 (some .boolean) 1 0 0 [vr 63, vi x] SH (pu σ (i : Int) f o) (fun r sh' σ' => SH = sh' ∧ ∃ j : Nat, pu σ (j : Int) f o = σ' ∧ ((r = 1 ∧ j = i + 1 ∧ f < 0 ∧ i < n ∧ T i = x) ∨ (r = 0 ∧ j = i ∧ (0 ≤ f ∨ n ≤ i ∨ T i ≠ x)))) := by
  refine am_Mz_of (by decide +kernel) (Nat.le_of_ble_eq_true rfl) (fun K X hY hI hret => ?_)
  show am_G K 0 [some (vr 63), some (vi x)] [] SH (pu σ (i : Int) f o)
  have hn120 := htx.1
  refine am_aload_n (x := 63) X (by rfl) dX10_takes_0 ?_
  refine am_get (v := f) X 63 fl_X10_184 (by decide) sh_63 (by decide) (pu_17) dX10_takes_1 ?_
  refine am_if_ge (tgt := 15) X dX10_takes_4 (by decide) (fun h4 => ?_) (fun h4 => ?_)
  · skip
    refine am_ic X (by decide) dX10_takes_15 ?_
    exact hret _ _ _ _ _ dX10_takes_16 rfl rfl (⟨rfl, i, rfl, Or.inr ⟨rfl, rfl, Or.inl (by omega)⟩⟩) (by first | exact Or.inl rfl | exact Or.inr rfl | omega)
  · skip
    refine am_aload_n (x := 63) X (by rfl) dX10_takes_7 ?_
    refine am_callVi (ci := 9) X hY lk_X10_187 mf_X10_byteAt (m_X10_byteAt i f o σ T n htx (by omega)) (by decide) (by decide) (Nat.le_refl _) (Nat.le_refl _) sh_63 rfl rfl rfl (Nat.le_of_ble_eq_true rfl) dX10_takes_8 (fun r8 sh8 σ8 hr8 hp8 => ?_)
    obtain ⟨rfl, rfl, hq8⟩ := hp8
    refine am_iload_n (x := x) X (by rfl) dX10_takes_11 ?_
    refine am_icmp_eq (tgt := 17) X dX10_takes_12 (by decide) (fun h12 => ?_) (fun h12 => ?_)
    · skip
      have hin := lx_at_in (T := T) (n := n) (i := i) (by omega)
      refine am_aload_n (x := 63) X (by rfl) dX10_takes_17 ?_
      refine am_dup X (Nat.ne_of_beq_eq_false rfl) dX10_takes_18 ?_
      refine am_get (v := (i : Int)) X 63 fl_X10_175 (by decide) sh_63 (by decide) (pu_15) dX10_takes_19 ?_
      refine am_ic X (by decide) dX10_takes_22 ?_
      refine am_add (v := ((i : Int) + 1)) X (by first | rfl | omega) (by omega) dX10_takes_23 ?_
      refine am_puti X 63 fl_X10_175 rfl rfl sh_63 (by decide) dX10_takes_24 ?_
      refine am_sg (pu σ ((i + 1 : Nat) : Int) f o) (pu_i15) ?_
      refine am_ic X (by decide) dX10_takes_27 ?_
      exact hret _ _ _ _ _ dX10_takes_28 rfl rfl (⟨rfl, i + 1, rfl, Or.inl ⟨rfl, rfl, by omega, hin.1, by omega⟩⟩) (by first | exact Or.inl rfl | exact Or.inr rfl | omega)
    · skip
      refine am_ic X (by decide) dX10_takes_15 ?_
      exact hret _ _ _ _ _ dX10_takes_16 rfl rfl (⟨rfl, i, rfl, Or.inr ⟨rfl, rfl, by by_cases hin : i < n; (rw [lx_at_eq hin] at hq8; exact Or.inr (Or.inr (by omega))); exact Or.inr (Or.inl (by omega))⟩⟩) (by first | exact Or.inl rfl | exact Or.inr rfl | omega)

set_option maxHeartbeats 4000000 in
set_option maxRecDepth 100000 in
theorem m_X10_nameOf (a : Int) (sh : List am_S) (σ : am_H) : am_Mi yX10_nameOf cX10_nameOf 1 (some .int) 0 0 0 [vi a] sh σ (fun r sh' σ' => sh = sh' ∧ σ = σ' ∧ r = lx_name a) := by
  refine am_Mi_of (by decide +kernel) (Nat.le_of_ble_eq_true rfl) (fun K X hY hI hret => ?_)
  show am_G K 0 [some (vi a)] [] sh σ
  refine am_iload_n (x := a) X (by rfl) dX10_nameOf_0 ?_
  by_cases h1o : a < 100 ∨ 115 < a
  · skip
    refine am_tableOut (tgt := 92) X dX10_nameOf_1 h1o (by decide) ?_
    refine am_ic X (by decide) dX10_nameOf_92 ?_
    exact hret _ _ _ _ _ dX10_nameOf_93 rfl rfl (by refine ⟨rfl, rfl, ?_⟩; unfold lx_name; (repeat' split) <;> first | omega | assumption)
  rcases (show a = 100 ∨ a = 101 ∨ a = 102 ∨ a = 103 ∨ a = 104 ∨ a = 105 ∨ a = 106 ∨ a = 107 ∨ a = 108 ∨ a = 109 ∨ a = 110 ∨ a = 111 ∨ a = 112 ∨ a = 113 ∨ a = 114 ∨ a = 115 by omega) with h1 | h1 | h1 | h1 | h1 | h1 | h1 | h1 | h1 | h1 | h1 | h1 | h1 | h1 | h1 | h1
  · skip
    refine am_tableIn (off := 79) (tgt := 80) X dX10_nameOf_1 (by omega) (by omega) (by rw [h1]; rfl) (by decide) ?_
    refine am_ic X (by decide) dX10_nameOf_80 ?_
    exact hret _ _ _ _ _ dX10_nameOf_81 rfl rfl (by refine ⟨rfl, rfl, ?_⟩; unfold lx_name; (repeat' split) <;> first | omega | assumption)
  · skip
    refine am_tableIn (off := 91) (tgt := 92) X dX10_nameOf_1 (by omega) (by omega) (by rw [h1]; rfl) (by decide) ?_
    refine am_ic X (by decide) dX10_nameOf_92 ?_
    exact hret _ _ _ _ _ dX10_nameOf_93 rfl rfl (by refine ⟨rfl, rfl, ?_⟩; unfold lx_name; (repeat' split) <;> first | omega | assumption)
  · skip
    refine am_tableIn (off := 91) (tgt := 92) X dX10_nameOf_1 (by omega) (by omega) (by rw [h1]; rfl) (by decide) ?_
    refine am_ic X (by decide) dX10_nameOf_92 ?_
    exact hret _ _ _ _ _ dX10_nameOf_93 rfl rfl (by refine ⟨rfl, rfl, ?_⟩; unfold lx_name; (repeat' split) <;> first | omega | assumption)
  · skip
    refine am_tableIn (off := 91) (tgt := 92) X dX10_nameOf_1 (by omega) (by omega) (by rw [h1]; rfl) (by decide) ?_
    refine am_ic X (by decide) dX10_nameOf_92 ?_
    exact hret _ _ _ _ _ dX10_nameOf_93 rfl rfl (by refine ⟨rfl, rfl, ?_⟩; unfold lx_name; (repeat' split) <;> first | omega | assumption)
  · skip
    refine am_tableIn (off := 91) (tgt := 92) X dX10_nameOf_1 (by omega) (by omega) (by rw [h1]; rfl) (by decide) ?_
    refine am_ic X (by decide) dX10_nameOf_92 ?_
    exact hret _ _ _ _ _ dX10_nameOf_93 rfl rfl (by refine ⟨rfl, rfl, ?_⟩; unfold lx_name; (repeat' split) <;> first | omega | assumption)
  · skip
    refine am_tableIn (off := 91) (tgt := 92) X dX10_nameOf_1 (by omega) (by omega) (by rw [h1]; rfl) (by decide) ?_
    refine am_ic X (by decide) dX10_nameOf_92 ?_
    exact hret _ _ _ _ _ dX10_nameOf_93 rfl rfl (by refine ⟨rfl, rfl, ?_⟩; unfold lx_name; (repeat' split) <;> first | omega | assumption)
  · skip
    refine am_tableIn (off := 91) (tgt := 92) X dX10_nameOf_1 (by omega) (by omega) (by rw [h1]; rfl) (by decide) ?_
    refine am_ic X (by decide) dX10_nameOf_92 ?_
    exact hret _ _ _ _ _ dX10_nameOf_93 rfl rfl (by refine ⟨rfl, rfl, ?_⟩; unfold lx_name; (repeat' split) <;> first | omega | assumption)
  · skip
    refine am_tableIn (off := 91) (tgt := 92) X dX10_nameOf_1 (by omega) (by omega) (by rw [h1]; rfl) (by decide) ?_
    refine am_ic X (by decide) dX10_nameOf_92 ?_
    exact hret _ _ _ _ _ dX10_nameOf_93 rfl rfl (by refine ⟨rfl, rfl, ?_⟩; unfold lx_name; (repeat' split) <;> first | omega | assumption)
  · skip
    refine am_tableIn (off := 83) (tgt := 84) X dX10_nameOf_1 (by omega) (by omega) (by rw [h1]; rfl) (by decide) ?_
    refine am_ic X (by decide) dX10_nameOf_84 ?_
    exact hret _ _ _ _ _ dX10_nameOf_85 rfl rfl (by refine ⟨rfl, rfl, ?_⟩; unfold lx_name; (repeat' split) <;> first | omega | assumption)
  · skip
    refine am_tableIn (off := 81) (tgt := 82) X dX10_nameOf_1 (by omega) (by omega) (by rw [h1]; rfl) (by decide) ?_
    refine am_ic X (by decide) dX10_nameOf_82 ?_
    exact hret _ _ _ _ _ dX10_nameOf_83 rfl rfl (by refine ⟨rfl, rfl, ?_⟩; unfold lx_name; (repeat' split) <;> first | omega | assumption)
  · skip
    refine am_tableIn (off := 91) (tgt := 92) X dX10_nameOf_1 (by omega) (by omega) (by rw [h1]; rfl) (by decide) ?_
    refine am_ic X (by decide) dX10_nameOf_92 ?_
    exact hret _ _ _ _ _ dX10_nameOf_93 rfl rfl (by refine ⟨rfl, rfl, ?_⟩; unfold lx_name; (repeat' split) <;> first | omega | assumption)
  · skip
    refine am_tableIn (off := 91) (tgt := 92) X dX10_nameOf_1 (by omega) (by omega) (by rw [h1]; rfl) (by decide) ?_
    refine am_ic X (by decide) dX10_nameOf_92 ?_
    exact hret _ _ _ _ _ dX10_nameOf_93 rfl rfl (by refine ⟨rfl, rfl, ?_⟩; unfold lx_name; (repeat' split) <;> first | omega | assumption)
  · skip
    refine am_tableIn (off := 87) (tgt := 88) X dX10_nameOf_1 (by omega) (by omega) (by rw [h1]; rfl) (by decide) ?_
    refine am_ic X (by decide) dX10_nameOf_88 ?_
    exact hret _ _ _ _ _ dX10_nameOf_89 rfl rfl (by refine ⟨rfl, rfl, ?_⟩; unfold lx_name; (repeat' split) <;> first | omega | assumption)
  · skip
    refine am_tableIn (off := 89) (tgt := 90) X dX10_nameOf_1 (by omega) (by omega) (by rw [h1]; rfl) (by decide) ?_
    refine am_ic X (by decide) dX10_nameOf_90 ?_
    exact hret _ _ _ _ _ dX10_nameOf_91 rfl rfl (by refine ⟨rfl, rfl, ?_⟩; unfold lx_name; (repeat' split) <;> first | omega | assumption)
  · skip
    refine am_tableIn (off := 91) (tgt := 92) X dX10_nameOf_1 (by omega) (by omega) (by rw [h1]; rfl) (by decide) ?_
    refine am_ic X (by decide) dX10_nameOf_92 ?_
    exact hret _ _ _ _ _ dX10_nameOf_93 rfl rfl (by refine ⟨rfl, rfl, ?_⟩; unfold lx_name; (repeat' split) <;> first | omega | assumption)
  · skip
    refine am_tableIn (off := 85) (tgt := 86) X dX10_nameOf_1 (by omega) (by omega) (by rw [h1]; rfl) (by decide) ?_
    refine am_ic X (by decide) dX10_nameOf_86 ?_
    exact hret _ _ _ _ _ dX10_nameOf_87 rfl rfl (by refine ⟨rfl, rfl, ?_⟩; unfold lx_name; (repeat' split) <;> first | omega | assumption)
