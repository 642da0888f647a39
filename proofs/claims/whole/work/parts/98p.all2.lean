/-! one call on both sides, the rest -/
theorem xf_image {σ σ1 : am_H} {r1 : Int} (h1 : Q9_image σ σ1 r1) : ∀ c k : Nat, 63 ≤ c → σ1 c k = σ c k := by
  intro c k hc
  unfold Q9_image at h1
  rw [← h1.1, am_up_k (by omega)]
  unfold dia_copy led_copy
  rw [am_up_k (by omega), am_up_k (by omega), am_cp_k (by omega), am_cp_k (by omega), am_cp_k (by omega), am_cp_k (by omega), am_cp_k (by omega), am_cp_k (by omega), am_up_k (by omega), am_cp_k (by omega), am_cp_k (by omega), am_cp_k (by omega), am_cp_k (by omega), am_cp_k (by omega)]
theorem xc_image {σ σ1 σ2 : am_H} {r1 r2 : Int} (h : RR σ σ) (h1 : Q9_image σ σ1 r1) (h2 : Q10_image σ1 σ2 r2) : r2 = r1 ∧ RR σ2 σ2 := by
  have hR : RR σ σ1 := xx_mid h (xf_image h1)
  have n := cq_n hR
  unfold Q9_image at h1
  unfold Q10_image at h2
  have k := cq_img hR
  rw [h1.1, h2.1] at k
  refine ⟨by rw [h1.2, h2.2]; exact n.1.2.2.2.1, xx_fin k (fun c k hc => ?_)⟩
  rw [← h2.1]
  unfold md_img
  rw [am_cp_k (by omega), am_cp_k (by omega), am_cp_k (by omega), am_cp_k (by omega), am_cp_k (by omega), am_up_k (by omega), am_up_k (by omega), am_up_k (by omega), am_up_k (by omega)]
theorem xf_back {σ σ1 : am_H} {r1 : Int} (h1 : Q9_back σ σ1 r1) : ∀ c k : Nat, 63 ≤ c → σ1 c k = σ c k := by
  intro c k hc
  unfold Q9_back at h1
  rcases h1 with ⟨-, -, e⟩ | ⟨-, -, e⟩
  · rw [← e]
  · rw [← e]; unfold dia_copy led_copy
    rw [am_up_k (by omega), am_up_k (by omega), am_cp_k (by omega), am_cp_k (by omega), am_cp_k (by omega), am_cp_k (by omega), am_cp_k (by omega), am_cp_k (by omega), am_up_k (by omega), am_cp_k (by omega), am_cp_k (by omega), am_cp_k (by omega), am_cp_k (by omega), am_cp_k (by omega)]
theorem xc_back {σ σ1 σ2 : am_H} {r1 r2 : Int} (h : RR σ σ) (h1 : Q9_back σ σ1 r1) (h2 : Q10_back σ1 σ2 r2) : r2 = r1 ∧ RR σ2 σ2 := by
  have hR : RR σ σ1 := xx_mid h (xf_back h1)
  have n := cq_n hR
  unfold Q9_back at h1
  unfold Q10_back at h2
  have gi := hR.2.2.2.2.2.2.1
  have g30 := gi.1.1
  rw [g30] at h2
  rcases h1 with ⟨p1, q1, e1⟩ | ⟨p1, q1, e1⟩ <;> rcases h2 with ⟨p2, q2, e2⟩ | ⟨p2, q2, e2⟩
  · subst e1; subst e2; exact ⟨q2.trans q1.symm, h⟩
  · omega
  · omega
  · have k := cq_bck hR p1
    rw [e1, e2] at k
    have g33 : σ1 63 33 = σ 35 7 := (gi.2 p1).2.2.1.1
    refine ⟨by rw [q1, q2]; exact g33, xx_fin k (fun c k hc => ?_)⟩
    rw [← e2]
    unfold md_bck
    rw [am_cp_k (by omega), am_cp_k (by omega), am_cp_k (by omega), am_cp_k (by omega), am_cp_k (by omega), am_up_k (by omega), am_up_k (by omega), am_up_k (by omega)]
theorem xf_undo {σ σ1 : am_H} {k r1 : Int} (h1 : Q9_undo σ σ1 k r1) : ∀ c k : Nat, 63 ≤ c → σ1 c k = σ c k := by
  intro c k hc
  unfold Q9_undo at h1
  rcases h1 with ⟨-, -, e⟩ | ⟨-, -, e⟩
  · rw [← e]
  · rw [← e]; unfold chg_back; rw [set_tell_k (by omega), am_up_k (by omega), am_up_k (by omega)]
theorem xc_undo {σ σ1 σ2 : am_H} {k r1 r2 : Int} (h : RR σ σ) (h1 : Q9_undo σ σ1 k r1) (h2 : Q10_undo σ1 σ2 k r2) : r2 = r1 ∧ RR σ2 σ2 := by
  have hR : RR σ σ1 := xx_mid h (xf_undo h1)
  have n := cq_n hR
  unfold Q9_undo at h1
  unfold Q10_undo at h2
  rw [n.1.2.2.2.2.2.1] at h2
  rcases h1 with ⟨p1, q1, e1⟩ | ⟨p1, q1, e1⟩ <;> rcases h2 with ⟨p2, q2, e2⟩ | ⟨p2, q2, e2⟩
  · subst e1; subst e2; exact ⟨q2.trans q1.symm, h⟩
  · exact absurd p1 p2
  · exact absurd p2 p1
  · have k := cq_undo hR p1
    rw [n.1.2.2.2.2.2.1, e1, e2] at k
    have m : 0 ≤ chg_at 0 0 := by decide
    exact ⟨q2.trans q1.symm, xx_fin k (fun c k hc => by rw [← e2]; unfold md_undo; rw [am_up_k (by omega), am_up_k (by omega)])⟩
theorem xf_redo {σ σ1 : am_H} {k r1 : Int} (h1 : Q9_redo σ σ1 k r1) : ∀ c k : Nat, 63 ≤ c → σ1 c k = σ c k := by
  intro c k hc
  unfold Q9_redo at h1
  rcases h1 with ⟨-, -, e⟩ | ⟨-, -, e⟩
  · rw [← e]
  · rw [← e]; unfold chg_again; rw [am_up_k (by omega), am_up_k (by omega), set_tell_k (by omega)]
theorem xc_redo {σ σ1 σ2 : am_H} {k r1 r2 : Int} (h : RR σ σ) (h1 : Q9_redo σ σ1 k r1) (h2 : Q10_redo σ1 σ2 k r2) : r2 = r1 ∧ RR σ2 σ2 := by
  have hR : RR σ σ1 := xx_mid h (xf_redo h1)
  have n := cq_n hR
  unfold Q9_redo at h1
  unfold Q10_redo at h2
  have c2 := hR.2.1.1
  rcases h1 with ⟨p1, q1, e1⟩ | ⟨p1, q1, e1⟩ <;> rcases h2 with ⟨p2, q2, e2⟩ | ⟨p2, q2, e2⟩
  · subst e1; subst e2; exact ⟨q2.trans q1.symm, h⟩
  · omega
  · omega
  · have k := cq_redo hR p1
    rw [e1, e2] at k
    exact ⟨by omega, xx_fin k (fun c k hc => by rw [← e2]; unfold md_redo; rw [am_up_k (by omega), am_up_k (by omega)])⟩
theorem xf_mend {σ σ1 : am_H} {a b c r1 : Int} (h1 : Q9_mend σ σ1 a b c r1) : ∀ c k : Nat, 63 ≤ c → σ1 c k = σ c k := by
  intro c k hc
  unfold Q9_mend at h1
  rcases h1 with ⟨-, -, e⟩ | ⟨-, -, e⟩ | ⟨-, -, e⟩
  · rw [← e]
  · rw [← e]
  · rw [← e]; rw [set_tell_k (by omega)]
    unfold chg_note chg_push
    rw [am_up_k (by omega), am_up_k (by omega), am_up_k (by omega), am_up_k (by omega), am_up_k (by omega), am_up_k (by omega)]
    by_cases e4 : σ 4 4 < 40
    · rw [if_pos e4]
    · rw [if_neg e4]; unfold chg_forget; rw [am_up_k (by omega), am_cp_k (by omega), am_cp_k (by omega), am_cp_k (by omega), am_cp_k (by omega)]
theorem md_becomes_at {τ : am_H} {w c k : Nat} {v : Int} (h : c < 63) : md_becomes τ w v c k = τ c k := by
  unfold md_becomes
  by_cases e : τ 64 w = v
  · rw [if_pos e]
  · rw [if_neg e]
    unfold md_push
    rw [am_up_k (by omega), am_up_k (by omega), am_up_k (by omega), am_up_k (by omega), am_up_k (by omega), am_up_k (by omega)]
    by_cases e2 : τ 63 5 = 40
    · rw [if_pos e2, am_up_k (by omega), md_shift_at (by omega)]
    · rw [if_neg e2]
theorem xc_mend {σ σ1 σ2 : am_H} {a b c r1 r2 : Int} (h : RR σ σ) (h1 : Q9_mend σ σ1 a b c r1) (h2 : Q10_mend σ1 σ2 a b c r2) : r2 = r1 ∧ RR σ2 σ2 := by
  have hR : RR σ σ1 := xx_mid h (xf_mend h1)
  have n := cq_n hR
  unfold Q9_mend at h1
  unfold Q10_mend at h2
  rw [n.1.1] at h2
  have h3 : (¬ (c_num σ a b ∧ c_alw b c) ∧ r2 = -1 ∧ σ1 = σ2) ∨ ((c_num σ a b ∧ c_alw b c) ∧ r2 = σ1 64 (chg_at b a).toNat ∧ md_becomes σ1 (chg_at b a).toNat c = σ2) := by
    rcases h2 with ⟨p, q, e⟩ | ⟨p, q, e⟩ | ⟨p, q, e⟩ | ⟨p, q, e⟩ | ⟨p, q, e⟩
    · obtain ⟨rfl, p⟩ := p
      have e0 : chg_at 0 a = a := if_pos rfl
      rw [e0]
      exact Or.inr ⟨by unfold c_num c_alw; omega, q, e⟩
    · obtain ⟨rfl, p⟩ := p
      have e0 : chg_at 1 a = 12 + a := by unfold chg_at; rw [if_neg (by decide), if_pos rfl]
      rw [e0]
      exact Or.inr ⟨by unfold c_num c_alw; omega, q, e⟩
    · obtain ⟨rfl, rfl, p⟩ := p
      exact Or.inr ⟨by unfold c_num c_alw; omega, q, e⟩
    · obtain ⟨rfl, rfl, p⟩ := p
      exact Or.inr ⟨by unfold c_num c_alw; omega, q, e⟩
    · refine Or.inl ⟨fun z => p ?_, q, e⟩
      obtain ⟨z1, z2⟩ := z
      unfold c_num at z1
      unfold c_alw at z2
      omega
  rcases h3 with ⟨p2, q2, e2⟩ | ⟨p2, q2, e2⟩
  · rcases h1 with ⟨p1, q1, e1⟩ | ⟨p1, q1, e1⟩ | ⟨p1, q1, e1⟩
    · subst e1; subst e2; exact ⟨q2.trans q1.symm, h⟩
    · exact absurd p1.1 p2
    · exact absurd p1.1 p2
  · have k := cq_mend hR p2.1 p2.2
    rcases h1 with ⟨p1, q1, e1⟩ | ⟨p1, q1, e1⟩ | ⟨p1, q1, e1⟩
    · exact absurd p2 p1
    · have e3 := k.2.1 p1.2
      rw [e2] at e3
      subst e3; subst e1
      exact ⟨by rw [q1, q2, k.1], h⟩
    · have k3 := k.2.2 p1.2
      rw [e1, e2] at k3
      exact ⟨by rw [q1, q2, k.1], xx_fin k3 (fun c k hc => by rw [← e2]; exact md_becomes_at hc)⟩
theorem xf_act {σ σ1 : am_H} {b a x r1 : Int} (h1 : Q9_act σ σ1 b a x r1) : ∀ c k : Nat, 63 ≤ c → σ1 c k = σ c k := by
  intro c k hc
  unfold Q9_act at h1
  rcases h1 with ⟨-, e, -⟩ | ⟨-, e, -⟩
  · rw [← e, bn_at _ (by omega) (by omega), am_up_k (by omega), am_up_k (by omega)]
  · rw [← e, am_up_k (by omega)]
theorem xc_act {σ σ1 σ2 : am_H} {b a x r1 r2 : Int} (h : RR σ σ) (h1 : Q9_act σ σ1 b a x r1) (h2 : Q10_act σ1 σ2 b a x r2) : r2 = r1 ∧ RR σ2 σ2 := by
  have hR : RR σ σ1 := xx_mid h (xf_act h1)
  have n := cq_n hR
  unfold Q9_act at h1
  unfold Q10_act at h2
  rw [n.1.2.2.2.2.2.2.1] at h2
  rcases h1 with ⟨p1, e1, q1⟩ | ⟨p1, e1, q1⟩
  · have hK := (hR.2.2.2.2.2.2.2.1.2.1 b.toNat (by omega)).1
    rw [hK] at h2
    rcases h2 with ⟨p2, e2, q2⟩ | ⟨p2, e2, q2⟩ | ⟨p2, p3, e2, q2⟩
    · have k := cq_act (l := bd_tr (σ 47 b.toNat) a) (b := b) (K := σ 47 b.toNat) (b' := b) hR bd_tr_len
      rw [e1, e2] at k
      exact ⟨q2.trans q1.symm, xx_fin k (fun c k hc => by rw [← e2, mn_at _ (by omega) (by omega), am_up_k (by omega), am_up_k (by omega), am_up_k (by omega)])⟩
    · exact absurd p1.1 p2
    · exact absurd p1.2 p3
  · rcases h2 with ⟨p2, e2, q2⟩ | ⟨p2, e2, q2⟩ | ⟨p2, p3, e2, q2⟩
    · exact absurd p2 p1
    · have k := cq_act0 hR
      rw [e1, e2] at k
      exact ⟨q2.trans q1.symm, xx_fin k (fun c k hc => by rw [← e2, am_up_k (by omega)])⟩
    · have k := cq_act1 (K := σ1 84 b.toNat) (b := b) hR
      rw [e1, e2] at k
      exact ⟨q2.trans q1.symm, xx_fin k (fun c k hc => by rw [← e2, am_up_k (by omega), am_up_k (by omega), am_up_k (by omega)])⟩
theorem xf_law {σ σ1 : am_H} {r1 : Int} (h1 : Q9_law σ σ1 r1) : ∀ c k : Nat, 63 ≤ c → σ1 c k = σ c k := by
  intro c k hc
  unfold Q9_law at h1
  exact h1.1.1 c k (by omega) (by omega) (by omega) (by omega)
theorem xc_law {σ σ1 σ2 : am_H} {r1 r2 : Int} (h : RR σ σ) (h1 : Q9_law σ σ1 r1) (h2 : Q10_law σ1 σ2 r2) : r2 = r1 ∧ RR σ2 σ2 := by
  have hR : RR σ σ1 := xx_mid h (xf_law h1)
  have n := cq_n hR
  unfold Q9_law at h1
  unfold Q10_law at h2
  have k := cq_law hR h1 h2
  exact ⟨k.1, xx_fin k.2 (fun c k hc => h2.1 c k (by omega) (by omega))⟩
theorem xf_debts {σ σ1 : am_H} {a i n r1 : Int} (h1 : Q9_debts σ σ1 a i n r1) : ∀ c k : Nat, 63 ≤ c → σ1 c k = σ c k := by
  intro c k hc
  unfold Q9_debts at h1
  rcases h1 with ⟨-, -, e⟩ | ⟨-, -, e⟩ | ⟨-, -, e⟩ | ⟨-, -, m, -, -, e, -, -⟩
  · rw [← e]
  · rw [← e]
  · rw [← e]
  · rw [← e]; exact c_dbt_at (by omega)
theorem xc_debts {σ σ1 σ2 : am_H} {a i n r1 r2 : Int} (h : RR σ σ) (h1 : Q9_debts σ σ1 a i n r1) (h2 : Q10_debts σ1 σ2 a i n r2) : r2 = r1 ∧ RR σ2 σ2 := by
  have hR : RR σ σ1 := xx_mid h (xf_debts h1)
  have nn := cq_n hR
  unfold Q9_debts at h1
  unfold Q10_debts at h2
  by_cases v : (0 ≤ a ∧ a ≤ 5) ∧ 1 ≤ n ∧ n ≤ 15
  · have g := cq_she hR a.toNat (by omega)
    have g86 := g.2.1
    have bb := nn.2.2.2.2.2.2.2.1
    have g1 := g.1.1
    have g2 := g.1.2.1
    have g3 := g.1.2.2.2.2.1
    have hX : (0 ≤ σ (51 + 2 * a.toNat) 2 ∧ σ1 86 a.toNat = 50 + σ (51 + 2 * a.toNat) 2) ∨ (σ (51 + 2 * a.toNat) 2 < 0 ∧ σ1 86 a.toNat = σ (51 + 2 * a.toNat) 1) := by
      rw [g86]
      by_cases e : 0 ≤ σ (51 + 2 * a.toNat) 2
      · rw [if_pos e]; exact Or.inl ⟨e, rfl⟩
      · rw [if_neg e]; exact Or.inr ⟨by omega, rfl⟩
    rcases h1 with ⟨p1, q1, e1⟩ | ⟨p1, q1, e1⟩ | ⟨p1, q1, e1⟩ | ⟨p1, s1, m, q1, m1, e1, c1, d1⟩
    · exact absurd v p1
    · rcases h2 with ⟨p2, q2, e2⟩ | ⟨p2, q2, e2⟩ | ⟨p2, -, m', q2, m2, e2, c2, d2⟩
      · exact absurd v p2
      · exfalso; clear q1 q2 e1 e2; omega
      · have m0 : m' = 0 := by
          by_cases z : m' = 0
          · exact z
          · have q := (c2 0 (by omega)).1
            have q : σ1 86 a.toNat = 50 := q
            exfalso; clear q1 q2 e1 e2 c2 d2; omega
        subst m0
        subst e1; subst e2
        exact ⟨by rw [q1, q2]; rfl, h⟩
    · rcases h2 with ⟨p2, q2, e2⟩ | ⟨p2, q2, e2⟩ | ⟨p2, -, m', q2, m2, e2, c2, d2⟩
      · exact absurd v p2
      · subst e1; subst e2; exact ⟨q2.trans q1.symm, h⟩
      · exfalso; clear q1 q2 e1 e2 c2 d2; omega
    · rcases h2 with ⟨p2, q2, e2⟩ | ⟨p2, q2, e2⟩ | ⟨p2, -, m', q2, m2, e2, c2, d2⟩
      · exact absurd v p2
      · exfalso; clear q1 q2 e1 e2 c1 d1; omega
      · have k := cq_dbts hR (d := a.toNat) (by omega) s1 m1 m2 c1 d1 c2 d2
        have k2 := k.2
        rw [e1, ← k.1, e2] at k2
        exact ⟨by rw [q1, q2, k.1], xx_fin k2 (fun c k hc => by rw [← e2]; exact md_dbt_at (by omega) (by omega))⟩
  · rcases h1 with ⟨p1, q1, e1⟩ | ⟨p1, q1, e1⟩ | ⟨p1, q1, e1⟩ | ⟨p1, s1, m, q1, m1, e1, c1, d1⟩
    · rcases h2 with ⟨p2, q2, e2⟩ | ⟨p2, q2, e2⟩ | ⟨p2, -, m', q2, m2, e2, c2, d2⟩
      · subst e1; subst e2; exact ⟨q2.trans q1.symm, h⟩
      · exact absurd p2.1 v
      · exact absurd p2.1 v
    · exact absurd p1.1 v
    · exact absurd p1.1 v
    · exact absurd p1.1 v
theorem xf_go {σ σ1 : am_H} {seed n r1 : Int} (h1 : Q9_go σ σ1 seed n r1) : ∀ c k : Nat, 63 ≤ c → σ1 c k = σ c k := by
  intro c k hc
  unfold Q9_go at h1
  rcases h1 with ⟨-, e, -⟩ | ⟨-, e, -⟩
  · rw [e c k (by omega) (by omega)]; exact c_go_at hc _
  · exact e c k (by omega) (by omega)
theorem xc_go {σ σ1 σ2 : am_H} {seed n r1 r2 : Int} (h : RR σ σ) (h1 : Q9_go σ σ1 seed n r1) (h2 : Q10_go σ1 σ2 seed n r2) : r2 = r1 ∧ RR σ2 σ2 := by
  have hR : RR σ σ1 := xx_mid h (xf_go h1)
  have nn := cq_n hR
  unfold Q9_go at h1
  unfold Q10_go at h2
  rw [nn.1.2.2.2.1] at h2
  rcases h1 with ⟨p1, e1, q1⟩ | ⟨p1, e1, q1⟩
  · rcases h2 with ⟨p2, e2, q2⟩ | ⟨p2, e2, q2⟩
    · have k := cq_go seed hR n.toNat (by omega)
      refine ⟨by rw [q1, q2, k.2.2.1], xx_fin (RR_fr e1 e2 k.1) (fun c k hc => ?_)⟩
      rw [e2 c k (by omega) (by omega)]; exact md_go_at hc _
    · exact absurd p1 p2
  · rcases h2 with ⟨p2, e2, q2⟩ | ⟨p2, e2, q2⟩
    · exact absurd p2 p1
    · subst e2
      exact ⟨q2.trans q1.symm, RR_fr (fun c k h1 h2 => rfl) (md_fr_rf _) (xx_fin (RR_fr e1 (md_fr_rf _) hR) (fun c k hc => rfl))⟩
theorem xf_body {σ σ1 : am_H} {a r1 : Int} (h1 : Q9_body σ σ1 a r1) : ∀ c k : Nat, 63 ≤ c → σ1 c k = σ c k := by
  intro c k hc
  unfold Q9_body at h1
  rcases h1 with ⟨-, -, e⟩ | ⟨-, -, e⟩ | ⟨-, -, e⟩
  · rw [← e]
  · rw [← e]
  · rw [← e]; unfold bd_add; rw [am_up_k (by omega), am_up_k (by omega)]
theorem xc_body {σ σ1 σ2 : am_H} {a r1 r2 : Int} (h : RR σ σ) (h1 : Q9_body σ σ1 a r1) (h2 : Q10_body σ1 σ2 a r2) : r2 = r1 ∧ RR σ2 σ2 := by
  have hR : RR σ σ1 := xx_mid h (xf_body h1)
  have n := cq_n hR
  unfold Q9_body at h1
  unfold Q10_body at h2
  exact cp_bodyR h h1 h2
theorem xf_keep {σ σ1 : am_H} {a b r1 : Int} (h1 : Q9_keep σ σ1 a b r1) : ∀ c k : Nat, 63 ≤ c → σ1 c k = σ c k := by
  intro c k hc
  unfold Q9_keep at h1
  rcases h1 with ⟨-, -, e⟩ | ⟨p, -, e⟩
  · rw [← e]
  · rw [← e]; unfold sf_day; rw [am_up_k (by omega), am_up_k (by omega), am_up_k (by omega)]
theorem xc_keep {σ σ1 σ2 : am_H} {a b r1 r2 : Int} (h : RR σ σ) (h1 : Q9_keep σ σ1 a b r1) (h2 : Q10_keep σ1 σ2 a b r2) : r2 = r1 ∧ RR σ2 σ2 := by
  have hR : RR σ σ1 := xx_mid h (xf_keep h1)
  have n := cq_n hR
  unfold Q9_keep at h1
  unfold Q10_keep at h2
  exact cp_keepR h h1 h2
theorem xf_judge {σ σ1 : am_H} {a r1 : Int} (h1 : Q9_judge σ σ1 a r1) : ∀ c k : Nat, 63 ≤ c → σ1 c k = σ c k := by
  intro c k hc
  unfold Q9_judge at h1
  rcases h1 with ⟨-, -, e⟩ | ⟨-, -, e⟩ | ⟨-, -, e⟩ | ⟨-, -, -, e⟩ | ⟨-, -, -, -, -, -, e⟩
  · rw [← e]
  · rw [← e]
  · rw [← e]
  · rw [← e]
  · rw [← e]
theorem xc_judge {σ σ1 σ2 : am_H} {a r1 r2 : Int} (h : RR σ σ) (h1 : Q9_judge σ σ1 a r1) (h2 : Q10_judge σ1 σ2 a r2) : r2 = r1 ∧ RR σ2 σ2 := by
  have hR : RR σ σ1 := xx_mid h (xf_judge h1)
  have n := cq_n hR
  unfold Q9_judge at h1
  unfold Q10_judge at h2
  have e1 : σ = σ1 := by
    rcases h1 with ⟨-, -, e⟩ | ⟨-, -, e⟩ | ⟨-, -, e⟩ | ⟨-, -, -, e⟩ | ⟨-, -, -, -, -, -, e⟩
    · exact e
    · exact e
    · exact e
    · exact e
    · exact e
  subst e1
  have e2 : σ = σ2 := by
    rcases h2 with ⟨-, -, e⟩ | ⟨-, -, -, e⟩ | ⟨-, -, -, -, -, -, e⟩
    · exact e
    · exact e
    · exact e
  subst e2
  refine ⟨?_, h⟩
  have hb := cq_book (a := a) h
  rcases hb with ⟨v, b1⟩ | ⟨v, ⟨b2, b3, b1⟩ | ⟨b2, b3, b1⟩ | ⟨b2, b3, b1⟩⟩
  · rcases h1 with ⟨p1, q1, -⟩ | ⟨p1, q1, -⟩ | ⟨p1, q1, -⟩ | ⟨p1, -, q1, -⟩ | ⟨p1, -⟩
    · rcases h2 with ⟨p2, q2, -⟩ | ⟨p2, -⟩ | ⟨p2, -⟩
      · rw [q1, q2]; exact b1
      · omega
      · omega
    · exact absurd p1.1 v
    · exact absurd p1.1 v
    · exact absurd p1.1 v
    · exact absurd p1.1 v
  · rcases h1 with ⟨p1, q1, -⟩ | ⟨p1, q1, -⟩ | ⟨p1, q1, -⟩ | ⟨p1, -, q1, -⟩ | ⟨p1, -⟩
    · exact absurd v p1
    · rcases h2 with ⟨p2, q2, -⟩ | ⟨p2, -⟩ | ⟨p2, -⟩
      · rw [q1, q2]; exact b1
      · omega
      · omega
    · exact absurd ⟨b2, b3⟩ p1.2.1
    · exact absurd ⟨b2, b3⟩ p1.2.1
    · exact absurd ⟨b2, b3⟩ p1.2.1
  · rcases h1 with ⟨p1, q1, -⟩ | ⟨p1, q1, -⟩ | ⟨p1, q1, -⟩ | ⟨p1, -, q1, -⟩ | ⟨p1, -⟩
    · exact absurd v p1
    · exact absurd p1.2 b2
    · rcases h2 with ⟨p2, q2, -⟩ | ⟨p2, -⟩ | ⟨p2, -⟩
      · rw [q1, q2]; exact b1
      · omega
      · omega
    · exact absurd p1.2.2 b3
    · exact absurd p1.2.2 b3
  · have g := cq_she h a.toNat (by omega)
    have hso : ∀ k : Nat, md_so σ a.toNat k ↔ c_so σ a.toNat k := fun k => cq_so h (by omega)
    rcases h1 with ⟨p1, q1, -⟩ | ⟨p1, q1, -⟩ | ⟨p1, q1, -⟩ | ⟨p1, f1, q1, -⟩ | ⟨p1, k1, l1, f1, s1, q1, -⟩
    · exact absurd v p1
    · exact absurd p1.2 b2
    · exact absurd b3 p1.2.2
    · rcases h2 with ⟨p2, q2, -⟩ | ⟨p2, f2, q2, -⟩ | ⟨p2, k2, l2, f2, s2, q2, -⟩
      · omega
      · exact q2.trans q1.symm
      · rw [g.2.2.1] at l2
        exact absurd ((hso k2).mpr (f1 k2 l2)) f2
    · rcases h2 with ⟨p2, q2, -⟩ | ⟨p2, f2, q2, -⟩ | ⟨p2, k2, l2, f2, s2, q2, -⟩
      · omega
      · rw [g.2.2.1] at f2
        exact absurd ((hso k1).mp (f2 k1 l1)) f1
      · rw [q1, q2]
        have e : k2 = k1 := by
          rcases Nat.lt_trichotomy k2 k1 with z | z | z
          · exact absurd ((hso k2).mpr (s1 k2 z)) f2
          · exact z
          · exact absurd ((hso k1).mp (s2 k1 z)) f1
        rw [e]
theorem xf_taken {σ σ1 : am_H} {a b r1 : Int} (h1 : Q9_taken σ σ1 a b r1) : ∀ c k : Nat, 63 ≤ c → σ1 c k = σ c k := by
  intro c k hc
  unfold Q9_taken at h1
  rcases h1 with ⟨-, -, e⟩ | ⟨-, -, e⟩ | ⟨-, -, e⟩ | ⟨-, -, e⟩
  · rw [← e]
  · rw [← e]
  · rw [← e]
  · rw [← e]
theorem xc_taken {σ σ1 σ2 : am_H} {a b r1 r2 : Int} (h : RR σ σ) (h1 : Q9_taken σ σ1 a b r1) (h2 : Q10_taken σ1 σ2 a b r2) : r2 = r1 ∧ RR σ2 σ2 := by
  have hR : RR σ σ1 := xx_mid h (xf_taken h1)
  have n := cq_n hR
  unfold Q9_taken at h1
  unfold Q10_taken at h2
  have e1 : σ = σ1 := by
    rcases h1 with ⟨-, -, e⟩ | ⟨-, -, e⟩ | ⟨-, -, e⟩ | ⟨-, -, e⟩
    · exact e
    · exact e
    · exact e
    · exact e
  subst e1
  have e2 : σ = σ2 := by
    rcases h2 with ⟨-, -, e⟩ | ⟨-, -, e⟩ | ⟨-, -, e⟩ | ⟨-, -, -, e⟩ | ⟨-, -, -, e⟩
    · exact e
    · exact e
    · exact e
    · exact e
    · exact e
  subst e2
  refine ⟨?_, h⟩
  by_cases v : (0 ≤ a ∧ a ≤ 5) ∧ 0 ≤ b ∧ b ≤ 7
  · have g := cq_she h a.toNat (by omega)
    have g86 := g.2.1
    have bb := n.2.2.2.2.2.2.2.1
    have g1 := g.1.1
    have g2 := g.1.2.1
    have g3 := g.1.2.2.2.2.1
    by_cases e : 0 ≤ σ (51 + 2 * a.toNat) 2
    · rw [if_pos e] at g86
      have b1 := g3 e
      have r1v : r1 = -12 := by
        rcases h1 with ⟨p1, q1, -⟩ | ⟨p1, q1, -⟩ | ⟨p1, q1, -⟩ | ⟨p1, q1, -⟩
        · exact absurd v p1
        · exact absurd p1.2 (by omega)
        · exact q1
        · exact absurd p1.2.2.1 (by omega)
      have r2v : r2 = -12 := by
        rcases h2 with ⟨p2, q2, -⟩ | ⟨p2, q2, -⟩ | ⟨p2, q2, -⟩ | ⟨p2, -, q2, -⟩ | ⟨p2, -, q2, -⟩
        · exact absurd v p2
        · exact absurd p2.2 (by omega)
        · exact q2
        · exact absurd p2.2.2 (by omega)
        · exact q2
      rw [r1v, r2v]
    · rw [if_neg e] at g86
      by_cases e2 : σ (51 + 2 * a.toNat) 1 < 0
      · have r1v : r1 = -11 := by
          rcases h1 with ⟨p1, q1, -⟩ | ⟨p1, q1, -⟩ | ⟨p1, q1, -⟩ | ⟨p1, q1, -⟩
          · exact absurd v p1
          · exact q1
          · exact absurd ⟨e2, by omega⟩ p1.2.1
          · exact absurd ⟨e2, by omega⟩ p1.2.1
        have r2v : r2 = -11 := by
          rcases h2 with ⟨p2, q2, -⟩ | ⟨p2, q2, -⟩ | ⟨p2, q2, -⟩ | ⟨p2, -, q2, -⟩ | ⟨p2, -, q2, -⟩
          · exact absurd v p2
          · exact q2
          · exact absurd p2.2 (by omega)
          · exact absurd p2.2.1 (by omega)
          · exact absurd p2.2.1 (by omega)
        rw [r1v, r2v]
      · rw [g86, (h.2.2.2.2.2.2.2.1.2.1 (σ (51 + 2 * a.toNat) 1).toNat (by omega)).1] at h2
        generalize σ 47 (σ (51 + 2 * a.toNat) 1).toNat = K at h1 h2
        rcases h1 with ⟨p1, q1, -⟩ | ⟨p1, q1, -⟩ | ⟨p1, q1, -⟩ | ⟨p1, q1, -⟩
        · exact absurd v p1
        · exact absurd p1.2.1 e2
        · have nu : ¬ bd_un K b := fun z => p1.2.2 ⟨by omega, z⟩
          rcases h2 with ⟨p2, q2, -⟩ | ⟨p2, q2, -⟩ | ⟨p2, q2, -⟩ | ⟨p2, u2, q2, -⟩ | ⟨p2, u2, q2, -⟩
          · exact absurd v p2
          · exact absurd p2.2 e2
          · exact q2.trans q1.symm
          · exact absurd u2 nu
          · exact q2.trans q1.symm
        · have u : bd_un K b := p1.2.2.2
          rcases h2 with ⟨p2, q2, -⟩ | ⟨p2, q2, -⟩ | ⟨p2, q2, -⟩ | ⟨p2, u2, q2, -⟩ | ⟨p2, u2, q2, -⟩
          · exact absurd v p2
          · exact absurd p2.2 e2
          · exact absurd p2.2 (by omega)
          · exact q2.trans q1.symm
          · exact absurd u u2
  · rcases h1 with ⟨p1, q1, -⟩ | ⟨p1, q1, -⟩ | ⟨p1, q1, -⟩ | ⟨p1, q1, -⟩
    · rcases h2 with ⟨p2, q2, -⟩ | ⟨p2, q2, -⟩ | ⟨p2, q2, -⟩ | ⟨p2, u2, q2, -⟩ | ⟨p2, u2, q2, -⟩
      · exact q2.trans q1.symm
      · exact absurd p2.1 v
      · exact absurd p2.1 v
      · exact absurd p2.1 v
      · exact absurd p2.1 v
    · exact absurd p1.1 v
    · exact absurd p1.1 v
    · exact absurd p1.1 v
