set_option maxHeartbeats 4000000 in
set_option maxRecDepth 100000 in
theorem m_X7_holdsNothing (d : Nat) (hd6 : d < 6) (σ : am_H) : am_Mi yX7_holdsNothing cX7_holdsNothing 1 (some .boolean) 0 0 0 [vr (51 + 2 * d)] SH σ (fun r sh' σ' => SH = sh' ∧ σ = σ' ∧ am_b r (σ (51 + 2 * d) 1 < 0 ∧ σ (51 + 2 * d) 2 < 0)) := by
  refine am_Mz_of (by decide +kernel) (Nat.le_of_ble_eq_true rfl) (fun K X hY hI hret => ?_)
  show am_G K 0 [some (vr (51 + 2 * d))] [] SH σ
  refine am_aload_n (x := (51 + 2 * d)) X (by rfl) dX7_holdsNothing_0 ?_
  refine am_get (v := σ (51 + 2 * d) 1) X (51 + 2 * d) fl_X7_15 (by decide) (sh_sf hd6) (by decide) (rfl) dX7_holdsNothing_1 ?_
  refine am_if_ge (tgt := 18) X dX7_holdsNothing_4 (by decide) (fun h4 => ?_) (fun h4 => ?_)
  · skip
    refine am_ic X (by decide) dX7_holdsNothing_18 ?_
    exact hret _ _ _ _ _ dX7_holdsNothing_19 rfl rfl (by first | exact ⟨rfl, rfl, am_bt (by omega)⟩ | exact ⟨rfl, rfl, am_bf (by omega)⟩) (by first | exact Or.inl rfl | exact Or.inr rfl | omega)
  · skip
    refine am_aload_n (x := (51 + 2 * d)) X (by rfl) dX7_holdsNothing_7 ?_
    refine am_get (v := σ (51 + 2 * d) 2) X (51 + 2 * d) fl_X7_19 (by decide) (sh_sf hd6) (by decide) (rfl) dX7_holdsNothing_8 ?_
    refine am_if_ge (tgt := 18) X dX7_holdsNothing_11 (by decide) (fun h11 => ?_) (fun h11 => ?_)
    · skip
      refine am_ic X (by decide) dX7_holdsNothing_18 ?_
      exact hret _ _ _ _ _ dX7_holdsNothing_19 rfl rfl (by first | exact ⟨rfl, rfl, am_bt (by omega)⟩ | exact ⟨rfl, rfl, am_bf (by omega)⟩) (by first | exact Or.inl rfl | exact Or.inr rfl | omega)
    · skip
      refine am_ic X (by decide) dX7_holdsNothing_14 ?_
      refine am_goto (tgt := 19) X dX7_holdsNothing_15 (by decide) ?_
      exact hret _ _ _ _ _ dX7_holdsNothing_19 rfl rfl (by first | exact ⟨rfl, rfl, am_bt (by omega)⟩ | exact ⟨rfl, rfl, am_bf (by omega)⟩) (by first | exact Or.inl rfl | exact Or.inr rfl | omega)

set_option maxHeartbeats 4000000 in
set_option maxRecDepth 100000 in
theorem m_X7_holdsRow (d : Nat) (hd6 : d < 6) (σ : am_H) : am_Mi yX7_holdsRow cX7_holdsRow 1 (some .boolean) 0 0 0 [vr (51 + 2 * d)] SH σ (fun r sh' σ' => SH = sh' ∧ σ = σ' ∧ am_b r (0 ≤ σ (51 + 2 * d) 2)) := by
  refine am_Mz_of (by decide +kernel) (Nat.le_of_ble_eq_true rfl) (fun K X hY hI hret => ?_)
  show am_G K 0 [some (vr (51 + 2 * d))] [] SH σ
  refine am_aload_n (x := (51 + 2 * d)) X (by rfl) dX7_holdsRow_0 ?_
  refine am_get (v := σ (51 + 2 * d) 2) X (51 + 2 * d) fl_X7_19 (by decide) (sh_sf hd6) (by decide) (rfl) dX7_holdsRow_1 ?_
  refine am_if_lt (tgt := 11) X dX7_holdsRow_4 (by decide) (fun h4 => ?_) (fun h4 => ?_)
  · skip
    refine am_ic X (by decide) dX7_holdsRow_11 ?_
    exact hret _ _ _ _ _ dX7_holdsRow_12 rfl rfl (by first | exact ⟨rfl, rfl, am_bt (by omega)⟩ | exact ⟨rfl, rfl, am_bf (by omega)⟩) (by first | exact Or.inl rfl | exact Or.inr rfl | omega)
  · skip
    refine am_ic X (by decide) dX7_holdsRow_7 ?_
    refine am_goto (tgt := 12) X dX7_holdsRow_8 (by decide) ?_
    exact hret _ _ _ _ _ dX7_holdsRow_12 rfl rfl (by first | exact ⟨rfl, rfl, am_bt (by omega)⟩ | exact ⟨rfl, rfl, am_bf (by omega)⟩) (by first | exact Or.inl rfl | exact Or.inr rfl | omega)

set_option maxHeartbeats 4000000 in
set_option maxRecDepth 100000 in
theorem m_X7_holdDay (d : Nat) (hd6 : d < 6) (b : Int) (σ : am_H) : am_Mv yX7_holdDay cX7_holdDay 2 none 0 0 0 [vr (51 + 2 * d), vi b] SH σ (fun sh' σ' => SH = sh' ∧ (sf_day σ (51 + 2 * d) b) = σ' ∧ True) := by
  refine am_Mv_of (by decide +kernel) (Nat.le_of_ble_eq_true rfl) (fun K X hY hI hret => ?_)
  show am_G K 0 [some (vr (51 + 2 * d)), some (vi b)] [] SH σ
  refine am_aload_n (x := (51 + 2 * d)) X (by rfl) dX7_holdDay_0 ?_
  refine am_iload_n (x := b) X (by rfl) dX7_holdDay_1 ?_
  refine am_puti X (51 + 2 * d) fl_X7_15 rfl rfl (sh_sf hd6) (by decide) dX7_holdDay_2 ?_
  refine am_aload_n (x := (51 + 2 * d)) X (by rfl) dX7_holdDay_5 ?_
  refine am_ic X (by decide) dX7_holdDay_6 ?_
  refine am_puti X (51 + 2 * d) fl_X7_19 rfl rfl (sh_sf hd6) (by decide) dX7_holdDay_7 ?_
  refine am_aload_n (x := (51 + 2 * d)) X (by rfl) dX7_holdDay_10 ?_
  refine am_ic X (by decide) dX7_holdDay_11 ?_
  refine am_puti X (51 + 2 * d) fl_X7_22 rfl rfl (sh_sf hd6) (by decide) dX7_holdDay_12 ?_
  exact hret _ _ _ _ dX7_holdDay_15 rfl rfl (⟨rfl, rfl, trivial⟩)

set_option maxHeartbeats 4000000 in
set_option maxRecDepth 100000 in
theorem m_X7_holdRow (d : Nat) (hd6 : d < 6) (s n : Int) (hn : 0 ≤ n ∧ n ≤ 60) (σ : am_H) : am_Mv yX7_holdRow cX7_holdRow 4 none 0 0 0 [vr (51 + 2 * d), vi s, vi n] SH σ (fun sh' σ' => SH = sh' ∧ (sf_row σ (51 + 2 * d) (52 + 2 * d) s n) = σ' ∧ True) := by
  refine am_Mv_of (by decide +kernel) (Nat.le_of_ble_eq_true rfl) (fun K X hY hI hret => ?_)
  show am_G K 0 [some (vr (51 + 2 * d)), some (vi s), some (vi n), none] [] SH σ
  refine am_aload_n (x := (51 + 2 * d)) X (by rfl) dX7_holdRow_0 ?_
  refine am_ic X (by decide) dX7_holdRow_1 ?_
  refine am_puti X (51 + 2 * d) fl_X7_15 rfl rfl (sh_sf hd6) (by decide) dX7_holdRow_2 ?_
  refine am_aload_n (x := (51 + 2 * d)) X (by rfl) dX7_holdRow_5 ?_
  refine am_iload_n (x := s) X (by rfl) dX7_holdRow_6 ?_
  refine am_puti X (51 + 2 * d) fl_X7_19 rfl rfl (sh_sf hd6) (by decide) dX7_holdRow_7 ?_
  refine am_aload_n (x := (51 + 2 * d)) X (by rfl) dX7_holdRow_10 ?_
  refine am_iload_n (x := n) X (by rfl) dX7_holdRow_11 ?_
  refine am_puti X (51 + 2 * d) fl_X7_22 rfl rfl (sh_sf hd6) (by decide) dX7_holdRow_12 ?_
  refine am_ic X (by decide) dX7_holdRow_15 ?_
  refine am_istore_n (i := 3) (L' := [some (vr (51 + 2 * d)), some (vi s), some (vi n), some (vi 0)]) X rfl (Nat.le_of_ble_eq_true rfl) (by rfl) dX7_holdRow_16 ?_
  have hL17 : ∀ (m17 : Nat) (k : Nat) (hk : (k : Int) ≤ n) (hm17 : n.toNat - k = m17), am_G K 17 [some (vr (51 + 2 * d)), some (vi s), some (vi n), some (vi (k : Int))] [] SH (sf_zero (am_up (am_up (am_up σ (51 + 2 * d) 1 (-1)) (51 + 2 * d) 2 s) (51 + 2 * d) 3 n) (52 + 2 * d) k) := by
    intro m17
    induction m17 using Nat.strongRecOn with
    | ind m17 ih17 =>
    intro k hk hm17
    refine am_iload_n (x := (k : Int)) X (by rfl) dX7_holdRow_17 ?_
    refine am_iload_n (x := n) X (by rfl) dX7_holdRow_18 ?_
    refine am_icmp_ge (tgt := 35) X dX7_holdRow_19 (by decide) (fun h19 => ?_) (fun h19 => ?_)
    · skip
      exact hret _ _ _ _ dX7_holdRow_35 rfl rfl (by refine ⟨rfl, ?_, trivial⟩; unfold sf_row; rw [show n.toNat = k by omega])
    · skip
      refine am_aload_n (x := (51 + 2 * d)) X (by rfl) dX7_holdRow_22 ?_
      refine am_getr (c1 := (52 + 2 * d)) X (51 + 2 * d) fl_X7_9 (by decide) (sh_sf hd6) (by decide) (by rfl) dX7_holdRow_23 ?_
      refine am_iload_n (x := (k : Int)) X (by rfl) dX7_holdRow_26 ?_
      refine am_lc (v := 0) X (by rfl) dX7_holdRow_27 ?_
      refine am_lasj X (52 + 2 * d) k (sh_el hd6) (by omega) (by omega) dX7_holdRow_28 ?_
      refine am_inc (x := (k : Int)) (v := ((k : Int) + 1)) (L' := [some (vr (51 + 2 * d)), some (vi s), some (vi n), some (vi ((k : Int) + 1))]) X (by rfl) (by omega) (by omega) (by rfl) dX7_holdRow_29 ?_
      refine am_goto (tgt := 17) X dX7_holdRow_32 (by decide) ?_
      refine am_sg (sf_zero (am_up (am_up (am_up σ (51 + 2 * d) 1 (-1)) (51 + 2 * d) 2 s) (51 + 2 * d) 3 n) (52 + 2 * d) (k + 1)) (sf_zero_s _ _ _) ?_
      exact ih17 _ (by omega) (k + 1) (by omega) rfl
  refine am_sg (sf_zero (am_up (am_up (am_up σ (51 + 2 * d) 1 (-1)) (51 + 2 * d) 2 s) (51 + 2 * d) 3 n) (52 + 2 * d) 0) ((sf_zero_0 _ _).symm) ?_
  exact hL17 _ 0 (by omega) rfl

set_option maxHeartbeats 4000000 in
set_option maxRecDepth 100000 in
theorem m_X7_hasPlaces (d : Nat) (hd6 : d < 6) (i n : Int) (σ : am_H) (hl : 0 ≤ σ (51 + 2 * d) 3 ∧ σ (51 + 2 * d) 3 ≤ 60) : am_Mi yX7_hasPlaces cX7_hasPlaces 3 (some .boolean) 0 0 0 [vr (51 + 2 * d), vi i, vi n] SH σ (fun r sh' σ' => SH = sh' ∧ σ = σ' ∧ am_b r (0 ≤ n ∧ n ≤ σ (51 + 2 * d) 3 ∧ 0 ≤ i ∧ i ≤ σ (51 + 2 * d) 3 - n)) := by
  refine am_Mz_of (by decide +kernel) (Nat.le_of_ble_eq_true rfl) (fun K X hY hI hret => ?_)
  show am_G K 0 [some (vr (51 + 2 * d)), some (vi i), some (vi n)] [] SH σ
  refine am_iload_n (x := n) X (by rfl) dX7_hasPlaces_0 ?_
  refine am_if_lt (tgt := 30) X dX7_hasPlaces_1 (by decide) (fun h1 => ?_) (fun h1 => ?_)
  · skip
    refine am_ic X (by decide) dX7_hasPlaces_30 ?_
    exact hret _ _ _ _ _ dX7_hasPlaces_31 rfl rfl (by first | exact ⟨rfl, rfl, am_bt (by omega)⟩ | exact ⟨rfl, rfl, am_bf (by omega)⟩) (by first | exact Or.inl rfl | exact Or.inr rfl | omega)
  · skip
    refine am_iload_n (x := n) X (by rfl) dX7_hasPlaces_4 ?_
    refine am_aload_n (x := (51 + 2 * d)) X (by rfl) dX7_hasPlaces_5 ?_
    refine am_get (v := σ (51 + 2 * d) 3) X (51 + 2 * d) fl_X7_22 (by decide) (sh_sf hd6) (by decide) (rfl) dX7_hasPlaces_6 ?_
    refine am_icmp_gt (tgt := 30) X dX7_hasPlaces_9 (by decide) (fun h9 => ?_) (fun h9 => ?_)
    · skip
      refine am_ic X (by decide) dX7_hasPlaces_30 ?_
      exact hret _ _ _ _ _ dX7_hasPlaces_31 rfl rfl (by first | exact ⟨rfl, rfl, am_bt (by omega)⟩ | exact ⟨rfl, rfl, am_bf (by omega)⟩) (by first | exact Or.inl rfl | exact Or.inr rfl | omega)
    · skip
      refine am_iload_n (x := i) X (by rfl) dX7_hasPlaces_12 ?_
      refine am_if_lt (tgt := 30) X dX7_hasPlaces_13 (by decide) (fun h13 => ?_) (fun h13 => ?_)
      · skip
        refine am_ic X (by decide) dX7_hasPlaces_30 ?_
        exact hret _ _ _ _ _ dX7_hasPlaces_31 rfl rfl (by first | exact ⟨rfl, rfl, am_bt (by omega)⟩ | exact ⟨rfl, rfl, am_bf (by omega)⟩) (by first | exact Or.inl rfl | exact Or.inr rfl | omega)
      · skip
        refine am_iload_n (x := i) X (by rfl) dX7_hasPlaces_16 ?_
        refine am_aload_n (x := (51 + 2 * d)) X (by rfl) dX7_hasPlaces_17 ?_
        refine am_get (v := σ (51 + 2 * d) 3) X (51 + 2 * d) fl_X7_22 (by decide) (sh_sf hd6) (by decide) (rfl) dX7_hasPlaces_18 ?_
        refine am_iload_n (x := n) X (by rfl) dX7_hasPlaces_21 ?_
        refine am_sub (v := (σ (51 + 2 * d) 3 - n)) X (by first | rfl | omega) (by omega) dX7_hasPlaces_22 ?_
        refine am_icmp_gt (tgt := 30) X dX7_hasPlaces_23 (by decide) (fun h23 => ?_) (fun h23 => ?_)
        · skip
          refine am_ic X (by decide) dX7_hasPlaces_30 ?_
          exact hret _ _ _ _ _ dX7_hasPlaces_31 rfl rfl (by first | exact ⟨rfl, rfl, am_bt (by omega)⟩ | exact ⟨rfl, rfl, am_bf (by omega)⟩) (by first | exact Or.inl rfl | exact Or.inr rfl | omega)
        · skip
          refine am_ic X (by decide) dX7_hasPlaces_26 ?_
          refine am_goto (tgt := 31) X dX7_hasPlaces_27 (by decide) ?_
          exact hret _ _ _ _ _ dX7_hasPlaces_31 rfl rfl (by first | exact ⟨rfl, rfl, am_bt (by omega)⟩ | exact ⟨rfl, rfl, am_bf (by omega)⟩) (by first | exact Or.inl rfl | exact Or.inr rfl | omega)

set_option maxHeartbeats 4000000 in
set_option maxRecDepth 100000 in
theorem m_X7_number (d : Nat) (hd6 : d < 6) (i : Int) (k : Nat) (hi : i = k) (hk : k < 60) (σ : am_H) (hv : -32768 ≤ σ (52 + 2 * d) k ∧ σ (52 + 2 * d) k ≤ 32767) : am_Mi yX7_number cX7_number 2 (some .int) 0 0 0 [vr (51 + 2 * d), vi i] SH σ (fun r sh' σ' => SH = sh' ∧ σ = σ' ∧ r = σ (52 + 2 * d) k) := by
  refine am_Mi_of (by decide +kernel) (Nat.le_of_ble_eq_true rfl) (fun K X hY hI hret => ?_)
  show am_G K 0 [some (vr (51 + 2 * d)), some (vi i)] [] SH σ
  refine am_aload_n (x := (51 + 2 * d)) X (by rfl) dX7_number_0 ?_
  refine am_getr (c1 := (52 + 2 * d)) X (51 + 2 * d) fl_X7_9 (by decide) (sh_sf hd6) (by decide) (by rfl) dX7_number_1 ?_
  refine am_iload_n (x := i) X (by rfl) dX7_number_4 ?_
  refine am_lalj (v := σ (52 + 2 * d) k) X (52 + 2 * d) k (sh_el hd6) (by omega) (by omega) (rfl) dX7_number_5 ?_
  refine am_l2i X dX7_number_6 ?_
  exact hret _ _ _ _ _ dX7_number_7 rfl rfl (⟨rfl, rfl, w32_eq (by unfold R32; omega)⟩)

set_option maxHeartbeats 4000000 in
set_option maxRecDepth 100000 in
theorem m_X7_setElement (d : Nat) (hd6 : d < 6) (i : Int) (k : Nat) (hi : i = k) (hk : k < 60) (v : Int) (σ : am_H) : am_Mv yX7_setElement cX7_setElement 4 none 0 0 0 [vr (51 + 2 * d), vi i, vl v] SH σ (fun sh' σ' => SH = sh' ∧ (am_up σ (52 + 2 * d) k (sf_as (σ (51 + 2 * d) 2) v)) = σ' ∧ True) := by
  refine am_Mv_of (by decide +kernel) (Nat.le_of_ble_eq_true rfl) (fun K X hY hI hret => ?_)
  show am_G K 0 [some (vr (51 + 2 * d)), some (vi i), some (vl v), none] [] SH σ
  refine am_aload_n (x := (51 + 2 * d)) X (by rfl) dX7_setElement_0 ?_
  refine am_get (v := σ (51 + 2 * d) 2) X (51 + 2 * d) fl_X7_19 (by decide) (sh_sf hd6) (by decide) (rfl) dX7_setElement_1 ?_
  by_cases h4o : σ (51 + 2 * d) 2 < 0 ∨ 4 < σ (51 + 2 * d) 2
  · skip
    refine am_tableOut (tgt := 98) X dX7_setElement_4 h4o (by decide) ?_
    refine am_aload_n (x := (51 + 2 * d)) X (by rfl) dX7_setElement_98 ?_
    refine am_getr (c1 := (52 + 2 * d)) X (51 + 2 * d) fl_X7_9 (by decide) (sh_sf hd6) (by decide) (by rfl) dX7_setElement_99 ?_
    refine am_iload_n (x := i) X (by rfl) dX7_setElement_102 ?_
    refine am_lload_n (x := v) X (by rfl) dX7_setElement_103 ?_
    refine am_lasj X (52 + 2 * d) k (sh_el hd6) (by omega) (by omega) dX7_setElement_104 ?_
    exact hret _ _ _ _ dX7_setElement_105 rfl rfl (by refine ⟨rfl, ?_, trivial⟩; unfold sf_as; repeat (first | rfl | rw [if_pos (by omega)] | rw [if_neg (by omega)]))
  rcases (show σ (51 + 2 * d) 2 = 0 ∨ σ (51 + 2 * d) 2 = 1 ∨ σ (51 + 2 * d) 2 = 2 ∨ σ (51 + 2 * d) 2 = 3 ∨ σ (51 + 2 * d) 2 = 4 by omega) with h4 | h4 | h4 | h4 | h4
  · skip
    refine am_tableIn (off := 36) (tgt := 40) X dX7_setElement_4 (by omega) (by omega) (by rw [h4]; rfl) (by decide) ?_
    refine am_aload_n (x := (51 + 2 * d)) X (by rfl) dX7_setElement_40 ?_
    refine am_getr (c1 := (52 + 2 * d)) X (51 + 2 * d) fl_X7_9 (by decide) (sh_sf hd6) (by decide) (by rfl) dX7_setElement_41 ?_
    refine am_iload_n (x := i) X (by rfl) dX7_setElement_44 ?_
    refine am_lload_n (x := v) X (by rfl) dX7_setElement_45 ?_
    refine am_l2i X dX7_setElement_46 ?_
    refine am_i2b_ X dX7_setElement_47 ?_
    refine am_i2l X dX7_setElement_48 ?_
    refine am_lasj X (52 + 2 * d) k (sh_el hd6) (by omega) (by omega) dX7_setElement_49 ?_
    refine am_goto (tgt := 105) X dX7_setElement_50 (by decide) ?_
    exact hret _ _ _ _ dX7_setElement_105 rfl rfl (by refine ⟨rfl, ?_, trivial⟩; unfold sf_as; repeat (first | rfl | rw [if_pos (by omega)] | rw [if_neg (by omega)]))
  · skip
    refine am_tableIn (off := 49) (tgt := 53) X dX7_setElement_4 (by omega) (by omega) (by rw [h4]; rfl) (by decide) ?_
    refine am_aload_n (x := (51 + 2 * d)) X (by rfl) dX7_setElement_53 ?_
    refine am_getr (c1 := (52 + 2 * d)) X (51 + 2 * d) fl_X7_9 (by decide) (sh_sf hd6) (by decide) (by rfl) dX7_setElement_54 ?_
    refine am_iload_n (x := i) X (by rfl) dX7_setElement_57 ?_
    refine am_lload_n (x := v) X (by rfl) dX7_setElement_58 ?_
    refine am_l2i X dX7_setElement_59 ?_
    refine am_i2s_ X dX7_setElement_60 ?_
    refine am_i2l X dX7_setElement_61 ?_
    refine am_lasj X (52 + 2 * d) k (sh_el hd6) (by omega) (by omega) dX7_setElement_62 ?_
    refine am_goto (tgt := 105) X dX7_setElement_63 (by decide) ?_
    exact hret _ _ _ _ dX7_setElement_105 rfl rfl (by refine ⟨rfl, ?_, trivial⟩; unfold sf_as; repeat (first | rfl | rw [if_pos (by omega)] | rw [if_neg (by omega)]))
  · skip
    refine am_tableIn (off := 62) (tgt := 66) X dX7_setElement_4 (by omega) (by omega) (by rw [h4]; rfl) (by decide) ?_
    refine am_aload_n (x := (51 + 2 * d)) X (by rfl) dX7_setElement_66 ?_
    refine am_getr (c1 := (52 + 2 * d)) X (51 + 2 * d) fl_X7_9 (by decide) (sh_sf hd6) (by decide) (by rfl) dX7_setElement_67 ?_
    refine am_iload_n (x := i) X (by rfl) dX7_setElement_70 ?_
    refine am_lload_n (x := v) X (by rfl) dX7_setElement_71 ?_
    refine am_l2i X dX7_setElement_72 ?_
    refine am_i2l X dX7_setElement_73 ?_
    refine am_lasj X (52 + 2 * d) k (sh_el hd6) (by omega) (by omega) dX7_setElement_74 ?_
    refine am_goto (tgt := 105) X dX7_setElement_75 (by decide) ?_
    exact hret _ _ _ _ dX7_setElement_105 rfl rfl (by refine ⟨rfl, ?_, trivial⟩; unfold sf_as; repeat (first | rfl | rw [if_pos (by omega)] | rw [if_neg (by omega)]))
  · skip
    refine am_tableIn (off := 94) (tgt := 98) X dX7_setElement_4 (by omega) (by omega) (by rw [h4]; rfl) (by decide) ?_
    refine am_aload_n (x := (51 + 2 * d)) X (by rfl) dX7_setElement_98 ?_
    refine am_getr (c1 := (52 + 2 * d)) X (51 + 2 * d) fl_X7_9 (by decide) (sh_sf hd6) (by decide) (by rfl) dX7_setElement_99 ?_
    refine am_iload_n (x := i) X (by rfl) dX7_setElement_102 ?_
    refine am_lload_n (x := v) X (by rfl) dX7_setElement_103 ?_
    refine am_lasj X (52 + 2 * d) k (sh_el hd6) (by omega) (by omega) dX7_setElement_104 ?_
    exact hret _ _ _ _ dX7_setElement_105 rfl rfl (by refine ⟨rfl, ?_, trivial⟩; unfold sf_as; repeat (first | rfl | rw [if_pos (by omega)] | rw [if_neg (by omega)]))
  · skip
    refine am_tableIn (off := 74) (tgt := 78) X dX7_setElement_4 (by omega) (by omega) (by rw [h4]; rfl) (by decide) ?_
    refine am_aload_n (x := (51 + 2 * d)) X (by rfl) dX7_setElement_78 ?_
    refine am_getr (c1 := (52 + 2 * d)) X (51 + 2 * d) fl_X7_9 (by decide) (sh_sf hd6) (by decide) (by rfl) dX7_setElement_79 ?_
    refine am_iload_n (x := i) X (by rfl) dX7_setElement_82 ?_
    refine am_lload_n (x := v) X (by rfl) dX7_setElement_83 ?_
    refine am_lc (v := 0) X (by rfl) dX7_setElement_84 ?_
    refine am_lcmp X dX7_setElement_85 ?_
    refine am_topi (fun y85 hy85 => ?_)
    have hc85 : (y85 = 1 ∧ 0 < v) ∨ (y85 = 0 ∧ v = 0) ∨ (y85 = -1 ∧ v < 0) := by rw [hy85]; split <;> (try split) <;> omega
    clear hy85
    refine am_if_eq (tgt := 93) X dX7_setElement_86 (by decide) (fun h86 => ?_) (fun h86 => ?_)
    · skip
      refine am_lc (v := 0) X (by rfl) dX7_setElement_93 ?_
      refine am_lasj X (52 + 2 * d) k (sh_el hd6) (by omega) (by omega) dX7_setElement_94 ?_
      refine am_goto (tgt := 105) X dX7_setElement_95 (by decide) ?_
      exact hret _ _ _ _ dX7_setElement_105 rfl rfl (by refine ⟨rfl, ?_, trivial⟩; unfold sf_as; repeat (first | rfl | rw [if_pos (by omega)] | rw [if_neg (by omega)]))
    · skip
      refine am_lc (v := 1) X (by rfl) dX7_setElement_89 ?_
      refine am_goto (tgt := 94) X dX7_setElement_90 (by decide) ?_
      refine am_lasj X (52 + 2 * d) k (sh_el hd6) (by omega) (by omega) dX7_setElement_94 ?_
      refine am_goto (tgt := 105) X dX7_setElement_95 (by decide) ?_
      exact hret _ _ _ _ dX7_setElement_105 rfl rfl (by refine ⟨rfl, ?_, trivial⟩; unfold sf_as; repeat (first | rfl | rw [if_pos (by omega)] | rw [if_neg (by omega)]))

set_option maxHeartbeats 4000000 in
set_option maxRecDepth 100000 in
theorem m_X2_place (d p : Int) (hd : 0 ≤ d ∧ d ≤ 48 ∧ 0 ≤ p ∧ p ≤ 9) (sh : List am_S) (σ : am_H) : am_Mi yX2_place cX2_place 2 (some .int) 0 0 0 [vi d, vi p] sh σ (fun r sh' σ' => sh = sh' ∧ σ = σ' ∧ r = d * 8 + p) := by
  refine am_Mi_of (by decide +kernel) (Nat.le_of_ble_eq_true rfl) (fun K X hY hI hret => ?_)
  show am_G K 0 [some (vi d), some (vi p)] [] sh σ
  refine am_iload_n (x := d) X (by rfl) dX2_place_0 ?_
  refine am_bipush X (by decide) dX2_place_1 ?_
  refine am_mul (v := (d * 8)) X (by first | rfl | omega) (by omega) dX2_place_3 ?_
  refine am_iload_n (x := p) X (by rfl) dX2_place_4 ?_
  refine am_add (v := ((d * 8) + p)) X (by first | rfl | omega) (by omega) dX2_place_5 ?_
  exact hret _ _ _ _ _ dX2_place_6 rfl rfl (⟨rfl, rfl, rfl⟩)

set_option maxHeartbeats 4000000 in
set_option maxRecDepth 100000 in
theorem m_X2_isAsk (a : Int) (σ : am_H) (ha : 0 ≤ σ 22 6 ∧ σ 22 6 ≤ 30) : am_Mi yX2_isAsk cX2_isAsk 2 (some .boolean) 1 0 0 [vr 22, vi a] SH σ (fun r sh' σ' => SH = sh' ∧ σ = σ' ∧ am_b r (0 ≤ a ∧ a < σ 22 6)) := by
  refine am_Mz_of (by decide +kernel) (Nat.le_of_ble_eq_true rfl) (fun K X hY hI hret => ?_)
  show am_G K 0 [some (vr 22), some (vi a)] [] SH σ
  refine am_iload_n (x := a) X (by rfl) dX2_isAsk_0 ?_
  refine am_ic X (by decide) dX2_isAsk_1 ?_
  refine am_aload_n (x := 22) X (by rfl) dX2_isAsk_2 ?_
  refine am_get (v := σ 22 6) X 22 fl_X2_37 (by decide) sh_22 (by decide) (rfl) dX2_isAsk_3 ?_
  refine am_ic X (by decide) dX2_isAsk_6 ?_
  refine am_sub (v := (σ 22 6 - 1)) X (by first | rfl | omega) (by omega) dX2_isAsk_7 ?_
  refine am_callSNi X hY lk_X2_44 mf_X9_within (m_X9_within a 0 (σ 22 6 - 1) _ σ) (by decide) (by decide) (Nat.le_refl _) (Nat.le_refl _) rfl rfl (Nat.le_of_ble_eq_true rfl) dX2_isAsk_8 (fun r8 sh8 σ8 hr8 hp8 => ?_)
  obtain ⟨rfl, rfl, hq8⟩ := hp8
  exact hret _ _ _ _ _ dX2_isAsk_11 rfl rfl (⟨rfl, rfl, am_bi hq8 (by omega)⟩) (am_bz hq8)

set_option maxHeartbeats 4000000 in
set_option maxRecDepth 100000 in
theorem m_X2_addAsk (d t : Int) (σ : am_H) (ha : 0 ≤ σ 22 6 ∧ σ 22 6 < 30) : am_Mi yX2_addAsk cX2_addAsk 3 (some .int) 0 0 0 [vr 22, vi d, vi t] SH σ (fun r sh' σ' => SH = sh' ∧ (dia_add σ (σ 22 6).toNat d t) = σ' ∧ r = σ 22 6) := by
  refine am_Mi_of (by decide +kernel) (Nat.le_of_ble_eq_true rfl) (fun K X hY hI hret => ?_)
  show am_G K 0 [some (vr 22), some (vi d), some (vi t)] [] SH σ
  refine am_aload_n (x := 22) X (by rfl) dX2_addAsk_0 ?_
  refine am_getr (c1 := 23) X 22 fl_X2_9 (by decide) sh_22 (by decide) (by rfl) dX2_addAsk_1 ?_
  refine am_aload_n (x := 22) X (by rfl) dX2_addAsk_4 ?_
  refine am_get (v := σ 22 6) X 22 fl_X2_37 (by decide) sh_22 (by decide) (rfl) dX2_addAsk_5 ?_
  refine am_iload_n (x := d) X (by rfl) dX2_addAsk_8 ?_
  refine am_ast X 23 (σ 22 6).toNat sh_23 (by omega) (by omega) dX2_addAsk_9 ?_
  refine am_aload_n (x := 22) X (by rfl) dX2_addAsk_10 ?_
  refine am_getr (c1 := 24) X 22 fl_X2_15 (by decide) sh_22 (by decide) (by rfl) dX2_addAsk_11 ?_
  refine am_aload_n (x := 22) X (by rfl) dX2_addAsk_14 ?_
  refine am_get (v := σ 22 6) X 22 fl_X2_37 (by decide) sh_22 (by decide) (by simp [am_up]) dX2_addAsk_15 ?_
  refine am_iload_n (x := t) X (by rfl) dX2_addAsk_18 ?_
  refine am_ast X 24 (σ 22 6).toNat sh_24 (by omega) (by omega) dX2_addAsk_19 ?_
  refine am_aload_n (x := 22) X (by rfl) dX2_addAsk_20 ?_
  refine am_getr (c1 := 25) X 22 fl_X2_18 (by decide) sh_22 (by decide) (by rfl) dX2_addAsk_21 ?_
  refine am_aload_n (x := 22) X (by rfl) dX2_addAsk_24 ?_
  refine am_get (v := σ 22 6) X 22 fl_X2_37 (by decide) sh_22 (by decide) (by simp [am_up]) dX2_addAsk_25 ?_
  refine am_ic X (by decide) dX2_addAsk_28 ?_
  refine am_zasj X 25 (σ 22 6).toNat sh_25 (by omega) (by omega) (by first | exact Or.inl rfl | exact Or.inr rfl | omega) dX2_addAsk_29 ?_
  refine am_aload_n (x := 22) X (by rfl) dX2_addAsk_30 ?_
  refine am_dup X (Nat.ne_of_beq_eq_false rfl) dX2_addAsk_31 ?_
  refine am_get (v := σ 22 6) X 22 fl_X2_37 (by decide) sh_22 (by decide) (by simp [am_up]) dX2_addAsk_32 ?_
  refine am_ic X (by decide) dX2_addAsk_35 ?_
  refine am_add (v := (σ 22 6 + 1)) X (by first | rfl | omega) (by omega) dX2_addAsk_36 ?_
  refine am_puti X 22 fl_X2_37 rfl rfl sh_22 (by decide) dX2_addAsk_37 ?_
  refine am_aload_n (x := 22) X (by rfl) dX2_addAsk_40 ?_
  refine am_get (v := (σ 22 6 + 1)) X 22 fl_X2_37 (by decide) sh_22 (by decide) (by simp [am_up]) dX2_addAsk_41 ?_
  refine am_ic X (by decide) dX2_addAsk_44 ?_
  refine am_sub (v := ((σ 22 6 + 1) - 1)) X (by first | rfl | omega) (by omega) dX2_addAsk_45 ?_
  exact hret _ _ _ _ _ dX2_addAsk_46 rfl rfl (⟨rfl, rfl, by omega⟩)

set_option maxHeartbeats 4000000 in
set_option maxRecDepth 100000 in
theorem m_X2_waiting (σ : am_H) (ha : 0 ≤ σ 22 6 ∧ σ 22 6 ≤ 30) : am_Mi yX2_waiting cX2_waiting 3 (some .int) 0 0 0 [vr 22] SH σ (fun r sh' σ' => SH = sh' ∧ σ = σ' ∧ r = am_sum (fun n : Nat => if σ 25 n = 0 then 1 else 0) (σ 22 6).toNat ∧ 0 ≤ r ∧ r ≤ 180) := by
  refine am_Mi_of (by decide +kernel) (Nat.le_of_ble_eq_true rfl) (fun K X hY hI hret => ?_)
  show am_G K 0 [some (vr 22), none, none] [] SH σ
  refine am_ic X (by decide) dX2_waiting_0 ?_
  refine am_istore_n (i := 1) (L' := [some (vr 22), some (vi 0), none]) X rfl (Nat.le_of_ble_eq_true rfl) (by rfl) dX2_waiting_1 ?_
  refine am_ic X (by decide) dX2_waiting_2 ?_
  refine am_istore_n (i := 2) (L' := [some (vr 22), some (vi 0), some (vi 0)]) X rfl (Nat.le_of_ble_eq_true rfl) (by rfl) dX2_waiting_3 ?_
  have hL4 : ∀ (m4 : Nat) (k : Nat) (s : Int) (hk : (k : Int) ≤ (σ 22 6)) (hs : s = am_sum (fun n : Nat => if σ 25 n = 0 then 1 else 0) k) (hm4 : (σ 22 6).toNat - k = m4), am_G K 4 [some (vr 22), some (vi s), some (vi (k : Int))] [] SH σ := by
    intro m4
    induction m4 using Nat.strongRecOn with
    | ind m4 ih4 =>
    intro k s hk hs hm4
    have hb := am_sum_1 (f := (fun n : Nat => if σ 25 n = 0 then 1 else 0)) (n := k) (fun j hj => by (repeat' split) <;> omega)
    refine am_iload_n (x := (k : Int)) X (by rfl) dX2_waiting_4 ?_
    refine am_aload_n (x := 22) X (by rfl) dX2_waiting_5 ?_
    refine am_get (v := σ 22 6) X 22 fl_X2_37 (by decide) sh_22 (by decide) (rfl) dX2_waiting_6 ?_
    refine am_icmp_ge (tgt := 30) X dX2_waiting_9 (by decide) (fun h9 => ?_) (fun h9 => ?_)
    · skip
      refine am_iload_n (x := s) X (by rfl) dX2_waiting_30 ?_
      exact hret _ _ _ _ _ dX2_waiting_31 rfl rfl (⟨rfl, rfl, by rw [hs, show (σ 22 6).toNat = k by omega], by omega, by omega⟩)
    · skip
      refine am_aload_n (x := 22) X (by rfl) dX2_waiting_12 ?_
      refine am_getr (c1 := 25) X 22 fl_X2_18 (by decide) sh_22 (by decide) (by rfl) dX2_waiting_13 ?_
      refine am_iload_n (x := (k : Int)) X (by rfl) dX2_waiting_16 ?_
      refine am_zalj (v := σ 25 k) X 25 k sh_25 (by omega) (by omega) (rfl) dX2_waiting_17 ?_
      refine am_if_ne (tgt := 24) X dX2_waiting_18 (by decide) (fun h18 => ?_) (fun h18 => ?_)
      · skip
        refine am_inc (x := (k : Int)) (v := ((k : Int) + 1)) (L' := [some (vr 22), some (vi s), some (vi ((k : Int) + 1))]) X (by rfl) (by omega) (by omega) (by rfl) dX2_waiting_24 ?_
        refine am_goto (tgt := 4) X dX2_waiting_27 (by decide) ?_
        exact ih4 _ (by omega) (k + 1) _ (by omega) (by (try subst s); (try simp only [hs]); show _ = am_sum (fun n : Nat => if σ 25 n = 0 then 1 else 0) k + (if _ then _ else _); first | rw [if_pos (by omega)] | (rw [if_neg (by omega)]; try omega)) rfl
      · skip
        refine am_inc (x := s) (v := (s + 1)) (L' := [some (vr 22), some (vi (s + 1)), some (vi (k : Int))]) X (by rfl) (by omega) (by omega) (by rfl) dX2_waiting_21 ?_
        refine am_inc (x := (k : Int)) (v := ((k : Int) + 1)) (L' := [some (vr 22), some (vi (s + 1)), some (vi ((k : Int) + 1))]) X (by rfl) (by omega) (by omega) (by rfl) dX2_waiting_24 ?_
        refine am_goto (tgt := 4) X dX2_waiting_27 (by decide) ?_
        exact ih4 _ (by omega) (k + 1) _ (by omega) (by (try subst s); (try simp only [hs]); show _ = am_sum (fun n : Nat => if σ 25 n = 0 then 1 else 0) k + (if _ then _ else _); first | rw [if_pos (by omega)] | (rw [if_neg (by omega)]; try omega)) rfl
  exact hL4 _ 0 0 (by omega) (rfl) rfl

set_option maxHeartbeats 4000000 in
set_option maxRecDepth 100000 in
theorem m_X2_lead (p q b w : Int) (kq : Nat) (hq : q = kq) (σ : am_H) (hn : 0 ≤ σ 22 7 ∧ σ 22 7 < 48 ∧ 0 ≤ p ∧ p < 8 ∧ kq < 8) : am_Mv yX2_lead cX2_lead 6 none 1 0 0 [vr 22, vi p, vi q, vi b, vi w] SH σ (fun sh' σ' => SH = sh' ∧ (dia_lead σ (σ 22 7 * 8 + p).toNat kq q b w) = σ' ∧ True) := by
  refine am_Mv_of (by decide +kernel) (Nat.le_of_ble_eq_true rfl) (fun K X hY hI hret => ?_)
  show am_G K 0 [some (vr 22), some (vi p), some (vi q), some (vi b), some (vi w), none] [] SH σ
  refine am_aload_n (x := 22) X (by rfl) dX2_lead_0 ?_
  refine am_get (v := σ 22 7) X 22 fl_X2_41 (by decide) sh_22 (by decide) (rfl) dX2_lead_1 ?_
  refine am_iload_n (x := p) X (by rfl) dX2_lead_4 ?_
  refine am_callSi X hY lk_X2_48 mf_X2_place (m_X2_place (σ 22 7) p (by omega) _ σ) (by decide) (by decide) (Nat.le_refl _) (Nat.le_refl _) rfl rfl (Nat.le_of_ble_eq_true rfl) dX2_lead_5 (fun r5 sh5 σ5 hr5 hp5 => ?_)
  obtain ⟨rfl, rfl, hq5⟩ := hp5
  refine am_istore (i := 5) (L' := [some (vr 22), some (vi p), some (vi q), some (vi b), some (vi w), some (vi r5)]) X (Nat.le_of_ble_eq_true rfl) (by rfl) dX2_lead_8 ?_
  refine am_aload_n (x := 22) X (by rfl) dX2_lead_10 ?_
  refine am_getr (c1 := 26) X 22 fl_X2_22 (by decide) sh_22 (by decide) (by rfl) dX2_lead_11 ?_
  refine am_iload (x := r5) X (by rfl) dX2_lead_14 ?_
  refine am_iload_n (x := q) X (by rfl) dX2_lead_16 ?_
  refine am_ast X 26 (σ 22 7 * 8 + p).toNat sh_26 (by omega) (by omega) dX2_lead_17 ?_
  refine am_aload_n (x := 22) X (by rfl) dX2_lead_18 ?_
  refine am_getr (c1 := 27) X 22 fl_X2_25 (by decide) sh_22 (by decide) (by rfl) dX2_lead_19 ?_
  refine am_iload (x := r5) X (by rfl) dX2_lead_22 ?_
  refine am_iload_n (x := b) X (by rfl) dX2_lead_24 ?_
  refine am_ast X 27 (σ 22 7 * 8 + p).toNat sh_27 (by omega) (by omega) dX2_lead_25 ?_
  refine am_aload_n (x := 22) X (by rfl) dX2_lead_26 ?_
  refine am_getr (c1 := 28) X 22 fl_X2_28 (by decide) sh_22 (by decide) (by rfl) dX2_lead_27 ?_
  refine am_iload_n (x := q) X (by rfl) dX2_lead_30 ?_
  refine am_dup2 X (Nat.ne_of_beq_eq_false rfl) (Nat.ne_of_beq_eq_false rfl) dX2_lead_31 ?_
  refine am_ald (v := σ 28 kq) X 28 kq sh_28 (by omega) (by omega) (by simp [am_up]) dX2_lead_32 ?_
  refine am_iload (x := w) X (by rfl) dX2_lead_33 ?_
  refine am_iadd X dX2_lead_35 ?_
  refine am_ast X 28 kq sh_28 (by omega) (by omega) dX2_lead_36 ?_
  exact hret _ _ _ _ dX2_lead_37 rfl rfl (⟨rfl, rfl, trivial⟩)

set_option maxHeartbeats 4000000 in
set_option maxRecDepth 100000 in
theorem m_X2_endDay (σ : am_H) (ha : 0 ≤ σ 22 6 ∧ σ 22 6 ≤ 30) (hn : 0 ≤ σ 22 7 ∧ σ 22 7 < 48) : am_Mv yX2_endDay cX2_endDay 2 none 0 0 0 [vr 22] SH σ (fun sh' σ' => SH = sh' ∧ (dia_end σ) = σ' ∧ True) := by
  refine am_Mv_of (by decide +kernel) (Nat.le_of_ble_eq_true rfl) (fun K X hY hI hret => ?_)
  show am_G K 0 [some (vr 22), none] [] SH σ
  refine am_ic X (by decide) dX2_endDay_0 ?_
  refine am_istore_n (i := 1) (L' := [some (vr 22), some (vi 0)]) X rfl (Nat.le_of_ble_eq_true rfl) (by rfl) dX2_endDay_1 ?_
  have hL2 : ∀ (m2 : Nat) (k : Nat) (hk : (k : Int) ≤ σ 22 6) (hm2 : (σ 22 6).toNat - k = m2), am_G K 2 [some (vr 22), some (vi (k : Int))] [] SH (dia_endL k σ) := by
    intro m2
    induction m2 using Nat.strongRecOn with
    | ind m2 ih2 =>
    intro k hk hm2
    refine am_iload_n (x := (k : Int)) X (by rfl) dX2_endDay_2 ?_
    refine am_aload_n (x := 22) X (by rfl) dX2_endDay_3 ?_
    refine am_get (v := (σ 22 6)) X 22 fl_X2_37 (by decide) sh_22 (by decide) (dia_endL_at (by decide)) dX2_endDay_4 ?_
    refine am_icmp_ge (tgt := 36) X dX2_endDay_7 (by decide) (fun h7 => ?_) (fun h7 => ?_)
    · skip
      refine am_aload_n (x := 22) X (by rfl) dX2_endDay_36 ?_
      refine am_dup X (Nat.ne_of_beq_eq_false rfl) dX2_endDay_37 ?_
      refine am_get (v := (σ 22 7)) X 22 fl_X2_41 (by decide) sh_22 (by decide) (dia_endL_at (by decide)) dX2_endDay_38 ?_
      refine am_ic X (by decide) dX2_endDay_41 ?_
      refine am_add (v := ((σ 22 7) + 1)) X (by first | rfl | omega) (by omega) dX2_endDay_42 ?_
      refine am_puti X 22 fl_X2_41 rfl rfl sh_22 (by decide) dX2_endDay_43 ?_
      exact hret _ _ _ _ dX2_endDay_46 rfl rfl (by refine ⟨rfl, ?_, trivial⟩; unfold dia_end; rw [show (σ 22 6).toNat = k by omega])
    · skip
      refine am_aload_n (x := 22) X (by rfl) dX2_endDay_10 ?_
      refine am_getr (c1 := 24) X 22 fl_X2_15 (by decide) sh_22 (by decide) (by rfl) dX2_endDay_11 ?_
      refine am_iload_n (x := (k : Int)) X (by rfl) dX2_endDay_14 ?_
      refine am_ald (v := (σ 24 k)) X 24 k sh_24 (by omega) (by omega) (dia_endL_at (by decide)) dX2_endDay_15 ?_
      refine am_aload_n (x := 22) X (by rfl) dX2_endDay_16 ?_
      refine am_get (v := (σ 22 7)) X 22 fl_X2_41 (by decide) sh_22 (by decide) (dia_endL_at (by decide)) dX2_endDay_17 ?_
      refine am_icmp_ne (tgt := 30) X dX2_endDay_20 (by decide) (fun h20 => ?_) (fun h20 => ?_)
      · skip
        refine am_inc (x := (k : Int)) (v := ((k : Int) + 1)) (L' := [some (vr 22), some (vi ((k : Int) + 1))]) X (by rfl) (by omega) (by omega) (by rfl) dX2_endDay_30 ?_
        refine am_goto (tgt := 2) X dX2_endDay_33 (by decide) ?_
        refine am_sg (dia_endL (k + 1) σ) (by first | exact dia_endL_s1 (by omega) | exact dia_endL_s0 (by omega)) ?_
        exact ih2 _ (by omega) (k + 1) (by omega) rfl
      · skip
        refine am_aload_n (x := 22) X (by rfl) dX2_endDay_23 ?_
        refine am_getr (c1 := 25) X 22 fl_X2_18 (by decide) sh_22 (by decide) (by rfl) dX2_endDay_24 ?_
        refine am_iload_n (x := (k : Int)) X (by rfl) dX2_endDay_27 ?_
        refine am_ic X (by decide) dX2_endDay_28 ?_
        refine am_zasj X 25 k sh_25 (by omega) (by omega) (by first | exact Or.inl rfl | exact Or.inr rfl | omega) dX2_endDay_29 ?_
        refine am_inc (x := (k : Int)) (v := ((k : Int) + 1)) (L' := [some (vr 22), some (vi ((k : Int) + 1))]) X (by rfl) (by omega) (by omega) (by rfl) dX2_endDay_30 ?_
        refine am_goto (tgt := 2) X dX2_endDay_33 (by decide) ?_
        refine am_sg (dia_endL (k + 1) σ) (by first | exact dia_endL_s1 (by omega) | exact dia_endL_s0 (by omega)) ?_
        exact ih2 _ (by omega) (k + 1) (by omega) rfl
  refine am_sg (dia_endL 0 σ) ((dia_endL_0 _).symm) ?_
  exact hL2 _ 0 (by omega) rfl

set_option maxHeartbeats 4000000 in
set_option maxRecDepth 100000 in
theorem m_X4_copyFrom_16 (σ : am_H) : am_Mv yX4_copyFrom cX4_copyFrom 2 none 1 0 0 [vr 29, vr 16] SH σ (fun sh' σ' => SH = sh' ∧ led_copy σ 16 29 = σ' ∧ True) := by
  refine am_Mv_of (by decide +kernel) (Nat.le_of_ble_eq_true rfl) (fun K X hY hI hret => ?_)
  show am_G K 0 [some (vr 29), some (vr 16)] [] SH σ
  refine am_aload_n (x := 16) X (by rfl) dX4_copyFrom_0 ?_
  refine am_getr (c1 := 17) X 16 fl_X4_9 (by decide) sh_16 (by decide) (by rfl) dX4_copyFrom_1 ?_
  refine am_ic X (by decide) dX4_copyFrom_4 ?_
  refine am_aload_n (x := 29) X (by rfl) dX4_copyFrom_5 ?_
  refine am_getr (c1 := 30) X 29 fl_X4_9 (by decide) sh_29 (by decide) (by rfl) dX4_copyFrom_6 ?_
  refine am_ic X (by decide) dX4_copyFrom_9 ?_
  refine am_bipush X (by decide) dX4_copyFrom_10 ?_
  refine am_copyi X hY 17 30 lk_X4_27 (by decide) sh_17 sh_30 (by omega) (by omega) (by omega) (by omega) (by omega) (Nat.le_of_ble_eq_true rfl) dX4_copyFrom_12 ?_
  refine am_aload_n (x := 16) X (by rfl) dX4_copyFrom_15 ?_
  refine am_getr (c1 := 18) X 16 fl_X4_15 (by decide) sh_16 (by decide) (by rfl) dX4_copyFrom_16 ?_
  refine am_ic X (by decide) dX4_copyFrom_19 ?_
  refine am_aload_n (x := 29) X (by rfl) dX4_copyFrom_20 ?_
  refine am_getr (c1 := 31) X 29 fl_X4_15 (by decide) sh_29 (by decide) (by rfl) dX4_copyFrom_21 ?_
  refine am_ic X (by decide) dX4_copyFrom_24 ?_
  refine am_bipush X (by decide) dX4_copyFrom_25 ?_
  refine am_copyi X hY 18 31 lk_X4_27 (by decide) sh_18 sh_31 (by omega) (by omega) (by omega) (by omega) (by omega) (Nat.le_of_ble_eq_true rfl) dX4_copyFrom_27 ?_
  refine am_aload_n (x := 16) X (by rfl) dX4_copyFrom_30 ?_
  refine am_getr (c1 := 19) X 16 fl_X4_18 (by decide) sh_16 (by decide) (by rfl) dX4_copyFrom_31 ?_
  refine am_ic X (by decide) dX4_copyFrom_34 ?_
  refine am_aload_n (x := 29) X (by rfl) dX4_copyFrom_35 ?_
  refine am_getr (c1 := 32) X 29 fl_X4_18 (by decide) sh_29 (by decide) (by rfl) dX4_copyFrom_36 ?_
  refine am_ic X (by decide) dX4_copyFrom_39 ?_
  refine am_bipush X (by decide) dX4_copyFrom_40 ?_
  refine am_copyi X hY 19 32 lk_X4_27 (by decide) sh_19 sh_32 (by omega) (by omega) (by omega) (by omega) (by omega) (Nat.le_of_ble_eq_true rfl) dX4_copyFrom_42 ?_
  refine am_aload_n (x := 16) X (by rfl) dX4_copyFrom_45 ?_
  refine am_getr (c1 := 20) X 16 fl_X4_21 (by decide) sh_16 (by decide) (by rfl) dX4_copyFrom_46 ?_
  refine am_ic X (by decide) dX4_copyFrom_49 ?_
  refine am_aload_n (x := 29) X (by rfl) dX4_copyFrom_50 ?_
  refine am_getr (c1 := 33) X 29 fl_X4_21 (by decide) sh_29 (by decide) (by rfl) dX4_copyFrom_51 ?_
  refine am_ic X (by decide) dX4_copyFrom_54 ?_
  refine am_bipush X (by decide) dX4_copyFrom_55 ?_
  refine am_copyi X hY 20 33 lk_X4_27 (by decide) sh_20 sh_33 (by omega) (by omega) (by omega) (by omega) (by omega) (Nat.le_of_ble_eq_true rfl) dX4_copyFrom_57 ?_
  refine am_aload_n (x := 16) X (by rfl) dX4_copyFrom_60 ?_
  refine am_getr (c1 := 21) X 16 fl_X4_24 (by decide) sh_16 (by decide) (by rfl) dX4_copyFrom_61 ?_
  refine am_ic X (by decide) dX4_copyFrom_64 ?_
  refine am_aload_n (x := 29) X (by rfl) dX4_copyFrom_65 ?_
  refine am_getr (c1 := 34) X 29 fl_X4_24 (by decide) sh_29 (by decide) (by rfl) dX4_copyFrom_66 ?_
  refine am_ic X (by decide) dX4_copyFrom_69 ?_
  refine am_bipush X (by decide) dX4_copyFrom_70 ?_
  refine am_copyi X hY 21 34 lk_X4_27 (by decide) sh_21 sh_34 (by omega) (by omega) (by omega) (by omega) (by omega) (Nat.le_of_ble_eq_true rfl) dX4_copyFrom_72 ?_
  refine am_aload_n (x := 29) X (by rfl) dX4_copyFrom_75 ?_
  refine am_aload_n (x := 16) X (by rfl) dX4_copyFrom_76 ?_
  refine am_get (v := (σ 16 5)) X 16 fl_X4_33 (by decide) sh_16 (by decide) (by simp [am_cp, am_up]) dX4_copyFrom_77 ?_
  refine am_puti X 29 fl_X4_33 rfl rfl sh_29 (by decide) dX4_copyFrom_80 ?_
  exact hret _ _ _ _ dX4_copyFrom_83 rfl rfl (⟨rfl, rfl, trivial⟩)

set_option maxHeartbeats 4000000 in
set_option maxRecDepth 100000 in
theorem m_X4_copyFrom_29 (σ : am_H) : am_Mv yX4_copyFrom cX4_copyFrom 2 none 1 0 0 [vr 16, vr 29] SH σ (fun sh' σ' => SH = sh' ∧ led_copy σ 29 16 = σ' ∧ True) := by
  refine am_Mv_of (by decide +kernel) (Nat.le_of_ble_eq_true rfl) (fun K X hY hI hret => ?_)
  show am_G K 0 [some (vr 16), some (vr 29)] [] SH σ
  refine am_aload_n (x := 29) X (by rfl) dX4_copyFrom_0 ?_
  refine am_getr (c1 := 30) X 29 fl_X4_9 (by decide) sh_29 (by decide) (by rfl) dX4_copyFrom_1 ?_
  refine am_ic X (by decide) dX4_copyFrom_4 ?_
  refine am_aload_n (x := 16) X (by rfl) dX4_copyFrom_5 ?_
  refine am_getr (c1 := 17) X 16 fl_X4_9 (by decide) sh_16 (by decide) (by rfl) dX4_copyFrom_6 ?_
  refine am_ic X (by decide) dX4_copyFrom_9 ?_
  refine am_bipush X (by decide) dX4_copyFrom_10 ?_
  refine am_copyi X hY 30 17 lk_X4_27 (by decide) sh_30 sh_17 (by omega) (by omega) (by omega) (by omega) (by omega) (Nat.le_of_ble_eq_true rfl) dX4_copyFrom_12 ?_
  refine am_aload_n (x := 29) X (by rfl) dX4_copyFrom_15 ?_
  refine am_getr (c1 := 31) X 29 fl_X4_15 (by decide) sh_29 (by decide) (by rfl) dX4_copyFrom_16 ?_
  refine am_ic X (by decide) dX4_copyFrom_19 ?_
  refine am_aload_n (x := 16) X (by rfl) dX4_copyFrom_20 ?_
  refine am_getr (c1 := 18) X 16 fl_X4_15 (by decide) sh_16 (by decide) (by rfl) dX4_copyFrom_21 ?_
  refine am_ic X (by decide) dX4_copyFrom_24 ?_
  refine am_bipush X (by decide) dX4_copyFrom_25 ?_
  refine am_copyi X hY 31 18 lk_X4_27 (by decide) sh_31 sh_18 (by omega) (by omega) (by omega) (by omega) (by omega) (Nat.le_of_ble_eq_true rfl) dX4_copyFrom_27 ?_
  refine am_aload_n (x := 29) X (by rfl) dX4_copyFrom_30 ?_
  refine am_getr (c1 := 32) X 29 fl_X4_18 (by decide) sh_29 (by decide) (by rfl) dX4_copyFrom_31 ?_
  refine am_ic X (by decide) dX4_copyFrom_34 ?_
  refine am_aload_n (x := 16) X (by rfl) dX4_copyFrom_35 ?_
  refine am_getr (c1 := 19) X 16 fl_X4_18 (by decide) sh_16 (by decide) (by rfl) dX4_copyFrom_36 ?_
  refine am_ic X (by decide) dX4_copyFrom_39 ?_
  refine am_bipush X (by decide) dX4_copyFrom_40 ?_
  refine am_copyi X hY 32 19 lk_X4_27 (by decide) sh_32 sh_19 (by omega) (by omega) (by omega) (by omega) (by omega) (Nat.le_of_ble_eq_true rfl) dX4_copyFrom_42 ?_
  refine am_aload_n (x := 29) X (by rfl) dX4_copyFrom_45 ?_
  refine am_getr (c1 := 33) X 29 fl_X4_21 (by decide) sh_29 (by decide) (by rfl) dX4_copyFrom_46 ?_
  refine am_ic X (by decide) dX4_copyFrom_49 ?_
  refine am_aload_n (x := 16) X (by rfl) dX4_copyFrom_50 ?_
  refine am_getr (c1 := 20) X 16 fl_X4_21 (by decide) sh_16 (by decide) (by rfl) dX4_copyFrom_51 ?_
  refine am_ic X (by decide) dX4_copyFrom_54 ?_
  refine am_bipush X (by decide) dX4_copyFrom_55 ?_
  refine am_copyi X hY 33 20 lk_X4_27 (by decide) sh_33 sh_20 (by omega) (by omega) (by omega) (by omega) (by omega) (Nat.le_of_ble_eq_true rfl) dX4_copyFrom_57 ?_
  refine am_aload_n (x := 29) X (by rfl) dX4_copyFrom_60 ?_
  refine am_getr (c1 := 34) X 29 fl_X4_24 (by decide) sh_29 (by decide) (by rfl) dX4_copyFrom_61 ?_
  refine am_ic X (by decide) dX4_copyFrom_64 ?_
  refine am_aload_n (x := 16) X (by rfl) dX4_copyFrom_65 ?_
  refine am_getr (c1 := 21) X 16 fl_X4_24 (by decide) sh_16 (by decide) (by rfl) dX4_copyFrom_66 ?_
  refine am_ic X (by decide) dX4_copyFrom_69 ?_
  refine am_bipush X (by decide) dX4_copyFrom_70 ?_
  refine am_copyi X hY 34 21 lk_X4_27 (by decide) sh_34 sh_21 (by omega) (by omega) (by omega) (by omega) (by omega) (Nat.le_of_ble_eq_true rfl) dX4_copyFrom_72 ?_
  refine am_aload_n (x := 16) X (by rfl) dX4_copyFrom_75 ?_
  refine am_aload_n (x := 29) X (by rfl) dX4_copyFrom_76 ?_
  refine am_get (v := (σ 29 5)) X 29 fl_X4_33 (by decide) sh_29 (by decide) (by simp [am_cp, am_up]) dX4_copyFrom_77 ?_
  refine am_puti X 16 fl_X4_33 rfl rfl sh_16 (by decide) dX4_copyFrom_80 ?_
  exact hret _ _ _ _ dX4_copyFrom_83 rfl rfl (⟨rfl, rfl, trivial⟩)

set_option maxHeartbeats 4000000 in
set_option maxRecDepth 100000 in
theorem m_X2_copyFrom_22 (σ : am_H) (hz : ∀ j, j < 30 → σ 25 j = 0 ∨ σ 25 j = 1) : am_Mv yX2_copyFrom cX2_copyFrom 2 none 1 0 0 [vr 35, vr 22] SH σ (fun sh' σ' => SH = sh' ∧ dia_copy σ 22 35 = σ' ∧ True) := by
  refine am_Mv_of (by decide +kernel) (Nat.le_of_ble_eq_true rfl) (fun K X hY hI hret => ?_)
  show am_G K 0 [some (vr 35), some (vr 22)] [] SH σ
  refine am_aload_n (x := 22) X (by rfl) dX2_copyFrom_0 ?_
  refine am_getr (c1 := 23) X 22 fl_X2_9 (by decide) sh_22 (by decide) (by rfl) dX2_copyFrom_1 ?_
  refine am_ic X (by decide) dX2_copyFrom_4 ?_
  refine am_aload_n (x := 35) X (by rfl) dX2_copyFrom_5 ?_
  refine am_getr (c1 := 36) X 35 fl_X2_9 (by decide) sh_35 (by decide) (by rfl) dX2_copyFrom_6 ?_
  refine am_ic X (by decide) dX2_copyFrom_9 ?_
  refine am_bipush X (by decide) dX2_copyFrom_10 ?_
  refine am_copyi X hY 23 36 lk_X2_31 (by decide) sh_23 sh_36 (by omega) (by omega) (by omega) (by omega) (by omega) (Nat.le_of_ble_eq_true rfl) dX2_copyFrom_12 ?_
  refine am_aload_n (x := 22) X (by rfl) dX2_copyFrom_15 ?_
  refine am_getr (c1 := 24) X 22 fl_X2_15 (by decide) sh_22 (by decide) (by rfl) dX2_copyFrom_16 ?_
  refine am_ic X (by decide) dX2_copyFrom_19 ?_
  refine am_aload_n (x := 35) X (by rfl) dX2_copyFrom_20 ?_
  refine am_getr (c1 := 37) X 35 fl_X2_15 (by decide) sh_35 (by decide) (by rfl) dX2_copyFrom_21 ?_
  refine am_ic X (by decide) dX2_copyFrom_24 ?_
  refine am_bipush X (by decide) dX2_copyFrom_25 ?_
  refine am_copyi X hY 24 37 lk_X2_31 (by decide) sh_24 sh_37 (by omega) (by omega) (by omega) (by omega) (by omega) (Nat.le_of_ble_eq_true rfl) dX2_copyFrom_27 ?_
  refine am_aload_n (x := 22) X (by rfl) dX2_copyFrom_30 ?_
  refine am_getr (c1 := 25) X 22 fl_X2_18 (by decide) sh_22 (by decide) (by rfl) dX2_copyFrom_31 ?_
  refine am_ic X (by decide) dX2_copyFrom_34 ?_
  refine am_aload_n (x := 35) X (by rfl) dX2_copyFrom_35 ?_
  refine am_getr (c1 := 38) X 35 fl_X2_18 (by decide) sh_35 (by decide) (by rfl) dX2_copyFrom_36 ?_
  refine am_ic X (by decide) dX2_copyFrom_39 ?_
  refine am_bipush X (by decide) dX2_copyFrom_40 ?_
  refine am_copyz X hY 25 38 lk_X2_31 (by decide) sh_25 sh_38 (by omega) (by omega) (by omega) (by omega) (by omega) (fun j h1 h2 => by simp only [am_cp]; simp; exact hz j (by simpa using h2)) (Nat.le_of_ble_eq_true rfl) dX2_copyFrom_42 ?_
  refine am_aload_n (x := 22) X (by rfl) dX2_copyFrom_45 ?_
  refine am_getr (c1 := 26) X 22 fl_X2_22 (by decide) sh_22 (by decide) (by rfl) dX2_copyFrom_46 ?_
  refine am_ic X (by decide) dX2_copyFrom_49 ?_
  refine am_aload_n (x := 35) X (by rfl) dX2_copyFrom_50 ?_
  refine am_getr (c1 := 39) X 35 fl_X2_22 (by decide) sh_35 (by decide) (by rfl) dX2_copyFrom_51 ?_
  refine am_ic X (by decide) dX2_copyFrom_54 ?_
  refine am_sipush X (by decide) dX2_copyFrom_55 ?_
  refine am_copyi X hY 26 39 lk_X2_31 (by decide) sh_26 sh_39 (by omega) (by omega) (by omega) (by omega) (by omega) (Nat.le_of_ble_eq_true rfl) dX2_copyFrom_58 ?_
  refine am_aload_n (x := 22) X (by rfl) dX2_copyFrom_61 ?_
  refine am_getr (c1 := 27) X 22 fl_X2_25 (by decide) sh_22 (by decide) (by rfl) dX2_copyFrom_62 ?_
  refine am_ic X (by decide) dX2_copyFrom_65 ?_
  refine am_aload_n (x := 35) X (by rfl) dX2_copyFrom_66 ?_
  refine am_getr (c1 := 40) X 35 fl_X2_25 (by decide) sh_35 (by decide) (by rfl) dX2_copyFrom_67 ?_
  refine am_ic X (by decide) dX2_copyFrom_70 ?_
  refine am_sipush X (by decide) dX2_copyFrom_71 ?_
  refine am_copyi X hY 27 40 lk_X2_31 (by decide) sh_27 sh_40 (by omega) (by omega) (by omega) (by omega) (by omega) (Nat.le_of_ble_eq_true rfl) dX2_copyFrom_74 ?_
  refine am_aload_n (x := 22) X (by rfl) dX2_copyFrom_77 ?_
  refine am_getr (c1 := 28) X 22 fl_X2_28 (by decide) sh_22 (by decide) (by rfl) dX2_copyFrom_78 ?_
  refine am_ic X (by decide) dX2_copyFrom_81 ?_
  refine am_aload_n (x := 35) X (by rfl) dX2_copyFrom_82 ?_
  refine am_getr (c1 := 41) X 35 fl_X2_28 (by decide) sh_35 (by decide) (by rfl) dX2_copyFrom_83 ?_
  refine am_ic X (by decide) dX2_copyFrom_86 ?_
  refine am_bipush X (by decide) dX2_copyFrom_87 ?_
  refine am_copyi X hY 28 41 lk_X2_31 (by decide) sh_28 sh_41 (by omega) (by omega) (by omega) (by omega) (by omega) (Nat.le_of_ble_eq_true rfl) dX2_copyFrom_89 ?_
  refine am_aload_n (x := 35) X (by rfl) dX2_copyFrom_92 ?_
  refine am_aload_n (x := 22) X (by rfl) dX2_copyFrom_93 ?_
  refine am_get (v := (σ 22 6)) X 22 fl_X2_37 (by decide) sh_22 (by decide) (by simp [am_cp, am_up]) dX2_copyFrom_94 ?_
  refine am_puti X 35 fl_X2_37 rfl rfl sh_35 (by decide) dX2_copyFrom_97 ?_
  refine am_aload_n (x := 35) X (by rfl) dX2_copyFrom_100 ?_
  refine am_aload_n (x := 22) X (by rfl) dX2_copyFrom_101 ?_
  refine am_get (v := (σ 22 7)) X 22 fl_X2_41 (by decide) sh_22 (by decide) (by simp [am_cp, am_up]) dX2_copyFrom_102 ?_
  refine am_puti X 35 fl_X2_41 rfl rfl sh_35 (by decide) dX2_copyFrom_105 ?_
  exact hret _ _ _ _ dX2_copyFrom_108 rfl rfl (⟨rfl, rfl, trivial⟩)

set_option maxHeartbeats 4000000 in
set_option maxRecDepth 100000 in
theorem m_X2_copyFrom_35 (σ : am_H) (hz : ∀ j, j < 30 → σ 38 j = 0 ∨ σ 38 j = 1) : am_Mv yX2_copyFrom cX2_copyFrom 2 none 1 0 0 [vr 22, vr 35] SH σ (fun sh' σ' => SH = sh' ∧ dia_copy σ 35 22 = σ' ∧ True) := by
  refine am_Mv_of (by decide +kernel) (Nat.le_of_ble_eq_true rfl) (fun K X hY hI hret => ?_)
  show am_G K 0 [some (vr 22), some (vr 35)] [] SH σ
  refine am_aload_n (x := 35) X (by rfl) dX2_copyFrom_0 ?_
  refine am_getr (c1 := 36) X 35 fl_X2_9 (by decide) sh_35 (by decide) (by rfl) dX2_copyFrom_1 ?_
  refine am_ic X (by decide) dX2_copyFrom_4 ?_
  refine am_aload_n (x := 22) X (by rfl) dX2_copyFrom_5 ?_
  refine am_getr (c1 := 23) X 22 fl_X2_9 (by decide) sh_22 (by decide) (by rfl) dX2_copyFrom_6 ?_
  refine am_ic X (by decide) dX2_copyFrom_9 ?_
  refine am_bipush X (by decide) dX2_copyFrom_10 ?_
  refine am_copyi X hY 36 23 lk_X2_31 (by decide) sh_36 sh_23 (by omega) (by omega) (by omega) (by omega) (by omega) (Nat.le_of_ble_eq_true rfl) dX2_copyFrom_12 ?_
  refine am_aload_n (x := 35) X (by rfl) dX2_copyFrom_15 ?_
  refine am_getr (c1 := 37) X 35 fl_X2_15 (by decide) sh_35 (by decide) (by rfl) dX2_copyFrom_16 ?_
  refine am_ic X (by decide) dX2_copyFrom_19 ?_
  refine am_aload_n (x := 22) X (by rfl) dX2_copyFrom_20 ?_
  refine am_getr (c1 := 24) X 22 fl_X2_15 (by decide) sh_22 (by decide) (by rfl) dX2_copyFrom_21 ?_
  refine am_ic X (by decide) dX2_copyFrom_24 ?_
  refine am_bipush X (by decide) dX2_copyFrom_25 ?_
  refine am_copyi X hY 37 24 lk_X2_31 (by decide) sh_37 sh_24 (by omega) (by omega) (by omega) (by omega) (by omega) (Nat.le_of_ble_eq_true rfl) dX2_copyFrom_27 ?_
  refine am_aload_n (x := 35) X (by rfl) dX2_copyFrom_30 ?_
  refine am_getr (c1 := 38) X 35 fl_X2_18 (by decide) sh_35 (by decide) (by rfl) dX2_copyFrom_31 ?_
  refine am_ic X (by decide) dX2_copyFrom_34 ?_
  refine am_aload_n (x := 22) X (by rfl) dX2_copyFrom_35 ?_
  refine am_getr (c1 := 25) X 22 fl_X2_18 (by decide) sh_22 (by decide) (by rfl) dX2_copyFrom_36 ?_
  refine am_ic X (by decide) dX2_copyFrom_39 ?_
  refine am_bipush X (by decide) dX2_copyFrom_40 ?_
  refine am_copyz X hY 38 25 lk_X2_31 (by decide) sh_38 sh_25 (by omega) (by omega) (by omega) (by omega) (by omega) (fun j h1 h2 => by simp only [am_cp]; simp; exact hz j (by simpa using h2)) (Nat.le_of_ble_eq_true rfl) dX2_copyFrom_42 ?_
  refine am_aload_n (x := 35) X (by rfl) dX2_copyFrom_45 ?_
  refine am_getr (c1 := 39) X 35 fl_X2_22 (by decide) sh_35 (by decide) (by rfl) dX2_copyFrom_46 ?_
  refine am_ic X (by decide) dX2_copyFrom_49 ?_
  refine am_aload_n (x := 22) X (by rfl) dX2_copyFrom_50 ?_
  refine am_getr (c1 := 26) X 22 fl_X2_22 (by decide) sh_22 (by decide) (by rfl) dX2_copyFrom_51 ?_
  refine am_ic X (by decide) dX2_copyFrom_54 ?_
  refine am_sipush X (by decide) dX2_copyFrom_55 ?_
  refine am_copyi X hY 39 26 lk_X2_31 (by decide) sh_39 sh_26 (by omega) (by omega) (by omega) (by omega) (by omega) (Nat.le_of_ble_eq_true rfl) dX2_copyFrom_58 ?_
  refine am_aload_n (x := 35) X (by rfl) dX2_copyFrom_61 ?_
  refine am_getr (c1 := 40) X 35 fl_X2_25 (by decide) sh_35 (by decide) (by rfl) dX2_copyFrom_62 ?_
  refine am_ic X (by decide) dX2_copyFrom_65 ?_
  refine am_aload_n (x := 22) X (by rfl) dX2_copyFrom_66 ?_
  refine am_getr (c1 := 27) X 22 fl_X2_25 (by decide) sh_22 (by decide) (by rfl) dX2_copyFrom_67 ?_
  refine am_ic X (by decide) dX2_copyFrom_70 ?_
  refine am_sipush X (by decide) dX2_copyFrom_71 ?_
  refine am_copyi X hY 40 27 lk_X2_31 (by decide) sh_40 sh_27 (by omega) (by omega) (by omega) (by omega) (by omega) (Nat.le_of_ble_eq_true rfl) dX2_copyFrom_74 ?_
  refine am_aload_n (x := 35) X (by rfl) dX2_copyFrom_77 ?_
  refine am_getr (c1 := 41) X 35 fl_X2_28 (by decide) sh_35 (by decide) (by rfl) dX2_copyFrom_78 ?_
  refine am_ic X (by decide) dX2_copyFrom_81 ?_
  refine am_aload_n (x := 22) X (by rfl) dX2_copyFrom_82 ?_
  refine am_getr (c1 := 28) X 22 fl_X2_28 (by decide) sh_22 (by decide) (by rfl) dX2_copyFrom_83 ?_
  refine am_ic X (by decide) dX2_copyFrom_86 ?_
  refine am_bipush X (by decide) dX2_copyFrom_87 ?_
  refine am_copyi X hY 41 28 lk_X2_31 (by decide) sh_41 sh_28 (by omega) (by omega) (by omega) (by omega) (by omega) (Nat.le_of_ble_eq_true rfl) dX2_copyFrom_89 ?_
  refine am_aload_n (x := 22) X (by rfl) dX2_copyFrom_92 ?_
  refine am_aload_n (x := 35) X (by rfl) dX2_copyFrom_93 ?_
  refine am_get (v := (σ 35 6)) X 35 fl_X2_37 (by decide) sh_35 (by decide) (by simp [am_cp, am_up]) dX2_copyFrom_94 ?_
  refine am_puti X 22 fl_X2_37 rfl rfl sh_22 (by decide) dX2_copyFrom_97 ?_
  refine am_aload_n (x := 22) X (by rfl) dX2_copyFrom_100 ?_
  refine am_aload_n (x := 35) X (by rfl) dX2_copyFrom_101 ?_
  refine am_get (v := (σ 35 7)) X 35 fl_X2_41 (by decide) sh_35 (by decide) (by simp [am_cp, am_up]) dX2_copyFrom_102 ?_
  refine am_puti X 22 fl_X2_41 rfl rfl sh_22 (by decide) dX2_copyFrom_105 ?_
  exact hret _ _ _ _ dX2_copyFrom_108 rfl rfl (⟨rfl, rfl, trivial⟩)
