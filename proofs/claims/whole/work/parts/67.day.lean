/-! a day of the reference's, as it is walked -/
theorem md_pw_real {υz υm σ1 : am_H} {p a r now : Int} {kk nn qn : Nat} (hm : md_mk υz kk (-2) (-2) = υm) (hg : md_fr υm σ1) (hn : (υz 72 (3 * a.toNat)).toNat = nn) (hq : (υz 68 (5 * nn + 1)).toNat = qn) (hr : r = md_wv υm p (υz 68 (5 * nn + 1)) (υz 63 9)) (h9 : now = υz 63 9) : md_fr (md_pw υz p kk a) (am_up (am_up (md_off (am_up σ1 73 qn (w32 (υz 73 qn + r))) nn now) 74 kk (υz 68 (5 * nn + 1))) 75 kk (υz 72 (3 * a.toNat))) := by
  unfold md_pw md_nx
  rw [hn, hm]
  unfold md_got
  rw [hq, ← hr, h9]
  refine md_fr_up (md_fr_up (md_off_fr (md_fr_up hg ?_) _ _) rfl) rfl
  rw [← hm, md_mk_at (by decide)]
theorem md_rest_0 (σ : am_H) : md_rest σ 0 = σ := by
  funext c k; unfold md_rest; rw [if_neg (by omega)]
theorem md_rest_s {σ : am_H} {n i : Nat} (hi : i = (8 * σ 63 9 + σ 63 6).toNat) : am_up (am_up (md_rest σ n) 74 (i + n) (-2)) 75 (i + n) (-2) = md_rest σ (n + 1) := by
  funext c k
  unfold am_up md_rest
  rw [← hi]
  by_cases h1 : c = 75 ∧ k = i + n
  · rw [if_pos h1, if_pos (by omega)]
  · rw [if_neg h1]
    by_cases h2 : c = 74 ∧ k = i + n
    · rw [if_pos h2, if_pos (by omega)]
    · rw [if_neg h2]
      by_cases h3 : (c = 74 ∨ c = 75) ∧ i ≤ k ∧ k < i + n
      · rw [if_pos h3, if_pos (by omega)]
      · rw [if_neg h3, if_neg (by omega)]
theorem md_dn_0 (σ : am_H) : md_dn σ 0 = σ := by
  funext c k; unfold md_dn; rw [if_neg (by omega)]
theorem md_dn_at2 {σ : am_H} {n : Nat} : md_dn σ n 72 (3 * n + 2) = σ 72 (3 * n + 2) := by
  unfold md_dn; rw [if_neg (by omega)]
theorem md_dn_s1 {σ : am_H} {n : Nat} (h : σ 72 (3 * n + 1) = σ 63 9) : am_up (md_dn σ n) 72 (3 * n + 2) 1 = md_dn σ (n + 1) := by
  funext c k
  unfold am_up md_dn
  by_cases h1 : c = 72 ∧ k = 3 * n + 2
  · rw [if_pos h1, if_pos ⟨h1.1, by omega, by omega, by rw [show k / 3 = n by omega]; exact h⟩]
  · rw [if_neg h1]
    by_cases h2 : c = 72 ∧ k % 3 = 2 ∧ k / 3 < n ∧ σ 72 (3 * (k / 3) + 1) = σ 63 9
    · rw [if_pos h2, if_pos ⟨h2.1, h2.2.1, by omega, h2.2.2.2⟩]
    · rw [if_neg h2, if_neg (fun q => h2 ⟨q.1, q.2.1, by omega, q.2.2.2⟩)]
theorem md_dn_s0 {σ : am_H} {n : Nat} (h : ¬ σ 72 (3 * n + 1) = σ 63 9) : am_up (md_dn σ n) 72 (3 * n + 2) (σ 72 (3 * n + 2)) = md_dn σ (n + 1) := by
  funext c k
  unfold am_up md_dn
  by_cases h1 : c = 72 ∧ k = 3 * n + 2
  · rw [if_pos h1, if_neg (fun q => h (by have q2 := q.2.2.2; rw [show k / 3 = n by omega] at q2; exact q2)), h1.1, h1.2]
  · rw [if_neg h1]
    by_cases h2 : c = 72 ∧ k % 3 = 2 ∧ k / 3 < n ∧ σ 72 (3 * (k / 3) + 1) = σ 63 9
    · rw [if_pos h2, if_pos ⟨h2.1, h2.2.1, by omega, h2.2.2.2⟩]
    · rw [if_neg h2, if_neg (fun q => h2 ⟨q.1, q.2.1, by
        rcases Nat.lt_or_ge (k / 3) n with z | z
        · exact z
        · exfalso
          have e : k / 3 = n := by omega
          have q2 := q.2.2.2
          rw [e] at q2
          exact h q2, q.2.2.2⟩)]
theorem md_day_st {σ : am_H} (g : MGo σ) : MGo (md_day σ).2 ∧ (md_day σ).2 63 9 = σ 63 9 + 1 ∧ (md_day σ).2 63 6 = σ 63 6 ∧ 0 ≤ (md_day σ).1 ∧ (md_day σ).1 ≤ 8 := by
  have h := md_pp_st (s := (0, σ)) g (σ 63 6).toNat
  have h1 := g.1
  unfold md_day
  refine ⟨MGo_end h.1, ?_, ?_, h.2.2.1, ?_⟩
  · show md_end (am_it md_pp (σ 63 6).toNat (0, σ)).2 63 9 = _
    unfold md_end
    rw [am_up_eq, h.2.1 9 (by decide)]
  · show md_end (am_it md_pp (σ 63 6).toNat (0, σ)).2 63 6 = _
    unfold md_end
    rw [am_up_k (by omega), md_dn_at (by omega), md_rest_at (by omega), h.2.1 6 (by decide)]
  · have := h.2.2.2
    show (am_it md_pp (σ 63 6).toNat (0, σ)).1 ≤ 8
    have h3 : (am_it md_pp (σ 63 6).toNat (0, σ)).1 ≤ 0 + ((σ 63 6).toNat : Int) := this
    omega
