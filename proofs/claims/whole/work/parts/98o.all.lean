/-! one call on both sides: answers alike, the relation stays -/
theorem xx_fin {σ1 σ2 : am_H} (h : RR σ1 σ2) (hf : ∀ c k : Nat, c < 63 → σ2 c k = σ1 c k) : RR σ2 σ2 := RR_mix hf (fun _ _ _ => rfl) h
theorem xx_mid {σ σ1 : am_H} (h : RR σ σ) (hf : ∀ c k : Nat, 63 ≤ c → σ1 c k = σ c k) : RR σ σ1 := RR_mix (fun _ _ _ => rfl) hf h
theorem xf_of {σ σ1 : am_H} {a b r1 : Int} (h1 : Q9_of σ σ1 a b r1) : ∀ c k : Nat, 63 ≤ c → σ1 c k = σ c k := by
  intro c k hc
  unfold Q9_of at h1
  obtain ⟨rfl, -⟩ := h1
  rfl
theorem xc_of {σ σ1 σ2 : am_H} {a b r1 r2 : Int} (h : RR σ σ) (h1 : Q9_of σ σ1 a b r1) (h2 : Q10_of σ1 σ2 a b r2) : r2 = r1 ∧ RR σ2 σ2 := by
  have hR : RR σ σ1 := xx_mid h (xf_of h1)
  have n := cq_n hR
  unfold Q9_of at h1
  unfold Q10_of at h2
  obtain ⟨rfl, e1⟩ := h1
  obtain ⟨rfl, e2⟩ := h2
  exact ⟨by rw [e1, e2]; exact cq_of h a b, h⟩
theorem xf_led {σ σ1 : am_H} {a b r1 : Int} (h1 : Q9_led σ σ1 a b r1) : ∀ c k : Nat, 63 ≤ c → σ1 c k = σ c k := by
  intro c k hc
  unfold Q9_led at h1
  obtain ⟨rfl, -⟩ := h1
  rfl
theorem xc_led {σ σ1 σ2 : am_H} {a b r1 r2 : Int} (h : RR σ σ) (h1 : Q9_led σ σ1 a b r1) (h2 : Q10_led σ1 σ2 a b r2) : r2 = r1 ∧ RR σ2 σ2 := by
  have hR : RR σ σ1 := xx_mid h (xf_led h1)
  have n := cq_n hR
  unfold Q9_led at h1
  unfold Q10_led at h2
  obtain ⟨rfl, e1⟩ := h1
  obtain ⟨rfl, e2⟩ := h2
  exact ⟨by rw [e1, e2]; exact cq_led h a b, h⟩
theorem xf_balance {σ σ1 : am_H} {a r1 : Int} (h1 : Q9_balance σ σ1 a r1) : ∀ c k : Nat, 63 ≤ c → σ1 c k = σ c k := by
  intro c k hc
  unfold Q9_balance at h1
  obtain ⟨rfl, -⟩ := h1
  rfl
theorem xc_balance {σ σ1 σ2 : am_H} {a r1 r2 : Int} (h : RR σ σ) (h1 : Q9_balance σ σ1 a r1) (h2 : Q10_balance σ1 σ2 a r2) : r2 = r1 ∧ RR σ2 σ2 := by
  have hR : RR σ σ1 := xx_mid h (xf_balance h1)
  have n := cq_n hR
  unfold Q9_balance at h1
  unfold Q10_balance at h2
  obtain ⟨rfl, e1⟩ := h1
  obtain ⟨rfl, e2⟩ := h2
  exact ⟨by rw [e1, e2]; exact cq_balance h a, h⟩
theorem xf_free {σ σ1 : am_H} {a b r1 : Int} (h1 : Q9_free σ σ1 a b r1) : ∀ c k : Nat, 63 ≤ c → σ1 c k = σ c k := by
  intro c k hc
  unfold Q9_free at h1
  obtain ⟨rfl, -⟩ := h1
  rfl
theorem xc_free {σ σ1 σ2 : am_H} {a b r1 r2 : Int} (h : RR σ σ) (h1 : Q9_free σ σ1 a b r1) (h2 : Q10_free σ1 σ2 a b r2) : r2 = r1 ∧ RR σ2 σ2 := by
  have hR : RR σ σ1 := xx_mid h (xf_free h1)
  have n := cq_n hR
  unfold Q9_free at h1
  unfold Q10_free at h2
  obtain ⟨rfl, e1⟩ := h1
  obtain ⟨rfl, e2⟩ := h2
  exact ⟨by rw [e1, e2]; exact cq_free h a b, h⟩
theorem xf_count {σ σ1 : am_H} {a r1 : Int} (h1 : Q9_count σ σ1 a r1) : ∀ c k : Nat, 63 ≤ c → σ1 c k = σ c k := by
  intro c k hc
  unfold Q9_count at h1
  obtain ⟨rfl, -⟩ := h1
  rfl
theorem xc_count {σ σ1 σ2 : am_H} {a r1 r2 : Int} (h : RR σ σ) (h1 : Q9_count σ σ1 a r1) (h2 : Q10_count σ1 σ2 a r2) : r2 = r1 ∧ RR σ2 σ2 := by
  have hR : RR σ σ1 := xx_mid h (xf_count h1)
  have n := cq_n hR
  unfold Q9_count at h1
  unfold Q10_count at h2
  obtain ⟨rfl, e1⟩ := h1
  obtain ⟨rfl, e2⟩ := h2
  exact ⟨by rw [e1, e2]; exact cq_count h a, h⟩
theorem xf_element {σ σ1 : am_H} {a i r1 : Int} (h1 : Q9_element σ σ1 a i r1) : ∀ c k : Nat, 63 ≤ c → σ1 c k = σ c k := by
  intro c k hc
  unfold Q9_element at h1
  obtain ⟨rfl, -⟩ := h1
  rfl
theorem xc_element {σ σ1 σ2 : am_H} {a i r1 r2 : Int} (h : RR σ σ) (h1 : Q9_element σ σ1 a i r1) (h2 : Q10_element σ1 σ2 a i r2) : r2 = r1 ∧ RR σ2 σ2 := by
  have hR : RR σ σ1 := xx_mid h (xf_element h1)
  have n := cq_n hR
  unfold Q9_element at h1
  unfold Q10_element at h2
  obtain ⟨rfl, e1⟩ := h1
  obtain ⟨rfl, e2⟩ := h2
  exact ⟨by rw [e1, e2]; exact cq_element h a i, h⟩
theorem xf_wet {σ σ1 : am_H} {a b r1 : Int} (h1 : Q9_wet σ σ1 a b r1) : ∀ c k : Nat, 63 ≤ c → σ1 c k = σ c k := by
  intro c k hc
  unfold Q9_wet at h1
  obtain ⟨rfl, -⟩ := h1
  rfl
theorem xc_wet {σ σ1 σ2 : am_H} {a b r1 r2 : Int} (h : RR σ σ) (h1 : Q9_wet σ σ1 a b r1) (h2 : Q10_wet σ1 σ2 a b r2) : r2 = r1 ∧ RR σ2 σ2 := by
  have hR : RR σ σ1 := xx_mid h (xf_wet h1)
  have n := cq_n hR
  unfold Q9_wet at h1
  unfold Q10_wet at h2
  obtain ⟨rfl, e1⟩ := h1
  obtain ⟨rfl, e2⟩ := h2
  exact ⟨by rw [e1, e2]; exact cq_wet h a b, h⟩
theorem xf_trace {σ σ1 : am_H} {a r1 : Int} (h1 : Q9_trace σ σ1 a r1) : ∀ c k : Nat, 63 ≤ c → σ1 c k = σ c k := by
  intro c k hc
  unfold Q9_trace at h1
  obtain ⟨rfl, -⟩ := h1
  rfl
theorem xc_trace {σ σ1 σ2 : am_H} {a r1 r2 : Int} (h : RR σ σ) (h1 : Q9_trace σ σ1 a r1) (h2 : Q10_trace σ1 σ2 a r2) : r2 = r1 ∧ RR σ2 σ2 := by
  have hR : RR σ σ1 := xx_mid h (xf_trace h1)
  have n := cq_n hR
  unfold Q9_trace at h1
  unfold Q10_trace at h2
  obtain ⟨rfl, e1⟩ := h1
  obtain ⟨rfl, e2⟩ := h2
  exact ⟨by rw [e1, e2]; exact cp_trace h a, h⟩
theorem xf_waits {σ σ1 : am_H} {r1 : Int} (h1 : Q9_waits σ σ1 r1) : ∀ c k : Nat, 63 ≤ c → σ1 c k = σ c k := by
  intro c k hc
  unfold Q9_waits at h1
  obtain ⟨rfl, -⟩ := h1
  rfl
theorem xc_waits {σ σ1 σ2 : am_H} {r1 r2 : Int} (h : RR σ σ) (h1 : Q9_waits σ σ1 r1) (h2 : Q10_waits σ1 σ2 r2) : r2 = r1 ∧ RR σ2 σ2 := by
  have hR : RR σ σ1 := xx_mid h (xf_waits h1)
  have n := cq_n hR
  unfold Q9_waits at h1
  unfold Q10_waits at h2
  obtain ⟨rfl, e1⟩ := h1
  obtain ⟨rfl, e2, -⟩ := h2
  exact ⟨by rw [e1, e2]; exact cq_waits h, h⟩
theorem xf_worth {σ σ1 : am_H} {a b r1 : Int} (h1 : Q9_worth σ σ1 a b r1) : ∀ c k : Nat, 63 ≤ c → σ1 c k = σ c k := by
  intro c k hc
  unfold Q9_worth at h1
  exact h1.1 c k (by omega) (by omega)
theorem xc_worth {σ σ1 σ2 : am_H} {a b r1 r2 : Int} (h : RR σ σ) (h1 : Q9_worth σ σ1 a b r1) (h2 : Q10_worth σ1 σ2 a b r2) : r2 = r1 ∧ RR σ2 σ2 := by
  have hR : RR σ σ1 := xx_mid h (xf_worth h1)
  have n := cq_n hR
  unfold Q9_worth at h1
  unfold Q10_worth at h2
  exact ⟨by rw [h1.2, h2.2]; exact cq_worth hR a b, xx_fin (RR_fr h1.1 h2.1 hR) (fun c k hc => h2.1 c k (by omega) (by omega))⟩
theorem xf_has {σ σ1 : am_H} {a b r1 : Int} (h1 : Q9_has σ σ1 a b r1) : ∀ c k : Nat, 63 ≤ c → σ1 c k = σ c k := by
  intro c k hc
  unfold Q9_has at h1
  exact h1.1 c k (by omega) (by omega)
theorem xc_has {σ σ1 σ2 : am_H} {a b r1 r2 : Int} (h : RR σ σ) (h1 : Q9_has σ σ1 a b r1) (h2 : Q10_has σ1 σ2 a b r2) : r2 = r1 ∧ RR σ2 σ2 := by
  have hR : RR σ σ1 := xx_mid h (xf_has h1)
  have n := cq_n hR
  unfold Q9_has at h1
  unfold Q10_has at h2
  exact ⟨by rw [h1.2, h2.2]; exact cq_has hR a b, xx_fin (RR_fr h1.1 h2.1 hR) (fun c k hc => h2.1 c k (by omega) (by omega))⟩
theorem xf_bestDay {σ σ1 : am_H} {a b r1 : Int} (h1 : Q9_bestDay σ σ1 a b r1) : ∀ c k : Nat, 63 ≤ c → σ1 c k = σ c k := by
  intro c k hc
  unfold Q9_bestDay at h1
  exact h1.1 c k (by omega) (by omega)
theorem xc_bestDay {σ σ1 σ2 : am_H} {a b r1 r2 : Int} (h : RR σ σ) (h1 : Q9_bestDay σ σ1 a b r1) (h2 : Q10_bestDay σ1 σ2 a b r2) : r2 = r1 ∧ RR σ2 σ2 := by
  have hR : RR σ σ1 := xx_mid h (xf_bestDay h1)
  have n := cq_n hR
  unfold Q9_bestDay at h1
  unfold Q10_bestDay at h2
  exact ⟨by rw [h1.2, h2.2]; exact cq_bestDay hR a b, xx_fin (RR_fr h1.1 h2.1 hR) (fun c k hc => h2.1 c k (by omega) (by omega))⟩
theorem xf_plan {σ σ1 : am_H} {a b r1 : Int} (h1 : Q9_plan σ σ1 a b r1) : ∀ c k : Nat, 63 ≤ c → σ1 c k = σ c k := by
  intro c k hc
  unfold Q9_plan at h1
  exact h1.1 c k (by omega) (by omega) (by omega)
theorem xc_plan {σ σ1 σ2 : am_H} {a b r1 r2 : Int} (h : RR σ σ) (h1 : Q9_plan σ σ1 a b r1) (h2 : Q10_plan σ1 σ2 a b r2) : r2 = r1 ∧ RR σ2 σ2 := by
  have hR : RR σ σ1 := xx_mid h (xf_plan h1)
  have n := cq_n hR
  unfold Q9_plan at h1
  unfold Q10_plan at h2
  have q := cp_planR h h1.1 h2.1
  refine ⟨?_, q.1⟩
  rw [h1.2, h2.2, n.1.1]
  by_cases e : (0 ≤ a ∧ a < σ 1 2) ∧ 0 ≤ b ∧ b ≤ 47
  · have q := q.2 a b e.2
    rw [n.1.1] at q
    rw [if_pos e, if_pos e]; exact q
  · rw [if_neg e, if_neg e]
theorem xf_ring {σ σ1 : am_H} {r1 : Int} (h1 : Q9_ring σ σ1 r1) : ∀ c k : Nat, 63 ≤ c → σ1 c k = σ c k := by
  intro c k hc
  unfold Q9_ring at h1
  obtain ⟨rfl, -⟩ := h1
  rfl
theorem xc_ring {σ σ1 σ2 : am_H} {r1 r2 : Int} (h : RR σ σ) (h1 : Q9_ring σ σ1 r1) (h2 : Q10_ring σ1 σ2 r2) : r2 = r1 ∧ RR σ2 σ2 := by
  have hR : RR σ σ1 := xx_mid h (xf_ring h1)
  have n := cq_n hR
  unfold Q9_ring at h1
  unfold Q10_ring at h2
  obtain ⟨rfl, x, hx, e1⟩ := h1
  have q := cp_ringR h hx h2.1 h2.2.1
  exact ⟨by rw [e1]; exact q.1, q.2⟩
theorem xf_wiped {σ σ1 : am_H} {r1 : Int} (h1 : Q9_wiped σ σ1 r1) : ∀ c k : Nat, 63 ≤ c → σ1 c k = σ c k := by
  intro c k hc
  unfold Q9_wiped at h1
  exact h1.1 c k (by omega) (by omega) (by omega)
theorem xc_wiped {σ σ1 σ2 : am_H} {r1 r2 : Int} (h : RR σ σ) (h1 : Q9_wiped σ σ1 r1) (h2 : Q10_wiped σ1 σ2 r2) : r2 = r1 ∧ RR σ2 σ2 := by
  have hR : RR σ σ1 := xx_mid h (xf_wiped h1)
  have n := cq_n hR
  unfold Q9_wiped at h1
  unfold Q10_wiped at h2
  have p := kh9_0 h
  have h12 : 2 ^ (σ 1 2).toNat ≤ 2 ^ 8 := Nat.pow_le_pow_right (by decide) (by omega)
  have h11 : 1 ≤ 2 ^ (σ 1 2).toNat := Nat.one_le_two_pow
  rw [n.1.1] at h2
  exact cp_wiped h (by omega) ⟨h11, by omega⟩ h1.1 h1.2.1 h1.2.2.1 h1.2.2.2 h2.1 h2.2.1 h2.2.2
theorem xf_strike {σ σ1 : am_H} {n r1 : Int} (h1 : Q9_strike σ σ1 n r1) : ∀ c k : Nat, 63 ≤ c → σ1 c k = σ c k := by
  intro c k hc
  unfold Q9_strike at h1
  obtain ⟨x, -, ⟨-, q, -⟩ | ⟨-, q, -⟩⟩ := h1
  · rw [← q]
  · rw [← q]; exact led_strike_at (by omega)
theorem xc_strike {σ σ1 σ2 : am_H} {n r1 r2 : Int} (h : RR σ σ) (h1 : Q9_strike σ σ1 n r1) (h2 : Q10_strike σ1 σ2 n r2) : r2 = r1 ∧ RR σ2 σ2 := by
  have hR : RR σ σ1 := xx_mid h (xf_strike h1)
  have n := cq_n hR
  unfold Q9_strike at h1
  unfold Q10_strike at h2
  obtain ⟨x, hx, h1⟩ := h1
  obtain ⟨τ, y, hf, hy, -, h2⟩ := h2
  exact cp_strikeR h hx h1 hf hy h2
theorem xf_person {σ σ1 : am_H} {a r1 : Int} (h1 : Q9_person σ σ1 a r1) : ∀ c k : Nat, 63 ≤ c → σ1 c k = σ c k := by
  intro c k hc
  unfold Q9_person at h1
  rcases h1 with ⟨-, -, e⟩ | ⟨-, -, e⟩ | ⟨-, -, e⟩
  · rw [← e]
  · rw [← e]
  · rw [← e]; unfold set_add; rw [am_up_k (by omega), am_up_k (by omega)]
theorem xc_person {σ σ1 σ2 : am_H} {a r1 r2 : Int} (h : RR σ σ) (h1 : Q9_person σ σ1 a r1) (h2 : Q10_person σ1 σ2 a r2) : r2 = r1 ∧ RR σ2 σ2 := by
  have hR : RR σ σ1 := xx_mid h (xf_person h1)
  have n := cq_n hR
  unfold Q9_person at h1
  unfold Q10_person at h2
  rw [n.1.1] at h2
  rcases h1 with ⟨p1, q1, e1⟩ | ⟨p1, q1, e1⟩ | ⟨p1, q1, e1⟩ <;> rcases h2 with ⟨p2, q2, e2⟩ | ⟨p2, q2, e2⟩ | ⟨p2, q2, e2⟩
  all_goals first
    | (exfalso; clear q1 q2 e1 e2; omega)
    | (subst e1; subst e2; exact ⟨q2.trans q1.symm, h⟩)
    | skip
  refine ⟨q2.trans q1.symm, ?_⟩
  have k := cq_person (a := a) hR p1.1 p1.2
  rw [e1, e2] at k
  exact xx_fin k (fun c k hc => by rw [← e2]; unfold md_person; rw [am_up_k (by omega), am_up_k (by omega)])
theorem xf_debt {σ σ1 : am_H} {a b r1 : Int} (h1 : Q9_debt σ σ1 a b r1) : ∀ c k : Nat, 63 ≤ c → σ1 c k = σ c k := by
  intro c k hc
  unfold Q9_debt at h1
  rcases h1 with ⟨-, -, e⟩ | ⟨-, -, e⟩ | ⟨-, -, e⟩
  · rw [← e]
  · rw [← e]
  · rw [← e]; exact led_add_at (by omega)
theorem xc_debt {σ σ1 σ2 : am_H} {a b r1 r2 : Int} (h : RR σ σ) (h1 : Q9_debt σ σ1 a b r1) (h2 : Q10_debt σ1 σ2 a b r2) : r2 = r1 ∧ RR σ2 σ2 := by
  have hR : RR σ σ1 := xx_mid h (xf_debt h1)
  have n := cq_n hR
  unfold Q9_debt at h1
  unfold Q10_debt at h2
  unfold c_pair at h1
  rw [n.1.1, n.1.2.1] at h2
  rcases h1 with ⟨p1, q1, e1⟩ | ⟨p1, q1, e1⟩ | ⟨p1, q1, e1⟩ <;> rcases h2 with ⟨p2, q2, e2⟩ | ⟨p2, q2, e2⟩ | ⟨p2, q2, e2⟩
  all_goals first
    | (exfalso; clear q1 q2 e1 e2; omega)
    | (subst e1; subst e2; exact ⟨q2.trans q1.symm, h⟩)
    | skip
  refine ⟨q2.trans q1.symm, ?_⟩
  have k := cq_debt (p := a / 10) (q := a % 10) (d := b / 100) (k := b % 100) hR p1.2 p1.1.1.2.1 p1.1.1.2.2.1 p1.1.1.2.2.2 p1.1.2.2.1 p1.1.2.2.2
  rw [n.1.2.1, e1, e2] at k
  exact xx_fin k (fun c k hc => by rw [← e2]; exact md_adds_at (by omega) (by omega))
theorem xf_feed {σ σ1 : am_H} {a r1 : Int} (h1 : Q9_feed σ σ1 a r1) : ∀ c k : Nat, 63 ≤ c → σ1 c k = σ c k := by
  intro c k hc
  unfold Q9_feed at h1
  rcases h1 with ⟨-, -, e⟩ | ⟨-, -, e⟩ | ⟨-, -, e⟩
  · rw [← e]
  · rw [← e]
  · rw [← e]; rw [am_up_k (by omega), am_up_k (by omega)]
theorem xc_feed {σ σ1 σ2 : am_H} {a r1 r2 : Int} (h : RR σ σ) (h1 : Q9_feed σ σ1 a r1) (h2 : Q10_feed σ1 σ2 a r2) : r2 = r1 ∧ RR σ2 σ2 := by
  have hR : RR σ σ1 := xx_mid h (xf_feed h1)
  have n := cq_n hR
  unfold Q9_feed at h1
  unfold Q10_feed at h2
  rw [n.1.2.2.2.2.1] at h2
  rcases h1 with ⟨p1, q1, e1⟩ | ⟨p1, q1, e1⟩ | ⟨p1, q1, e1⟩ <;> rcases h2 with ⟨p2, q2, e2⟩ | ⟨p2, q2, e2⟩ | ⟨p2, q2, e2⟩
  all_goals first
    | (exfalso; clear q1 q2 e1 e2; omega)
    | (subst e1; subst e2; exact ⟨q2.trans q1.symm, h⟩)
    | skip
  refine ⟨q2.trans q1.symm, ?_⟩
  have k := cq_feed (a := a) hR p1.2
  rw [n.1.2.2.2.2.1, e1, e2] at k
  exact xx_fin k (fun c k hc => by rw [← e2, am_up_k (by omega), am_up_k (by omega)])
theorem xf_ask {σ σ1 : am_H} {a b r1 : Int} (h1 : Q9_ask σ σ1 a b r1) : ∀ c k : Nat, 63 ≤ c → σ1 c k = σ c k := by
  intro c k hc
  unfold Q9_ask at h1
  rcases h1 with ⟨-, -, e⟩ | ⟨-, -, e⟩ | ⟨-, -, e⟩ | ⟨-, -, e⟩
  · rw [← e]
  · rw [← e]
  · rw [← e]
  · rw [← e]; unfold dia_add; rw [am_up_k (by omega), am_up_k (by omega), am_up_k (by omega), am_up_k (by omega)]
theorem xc_ask {σ σ1 σ2 : am_H} {a b r1 r2 : Int} (h : RR σ σ) (h1 : Q9_ask σ σ1 a b r1) (h2 : Q10_ask σ1 σ2 a b r2) : r2 = r1 ∧ RR σ2 σ2 := by
  have hR : RR σ σ1 := xx_mid h (xf_ask h1)
  have n := cq_n hR
  unfold Q9_ask at h1
  unfold Q10_ask at h2
  rw [n.1.2.1, n.1.2.2.1, n.1.2.2.2.1] at h2
  by_cases v : 0 ≤ a ∧ a < σ 16 5
  · rw [((cp_deb hR.2.2.2.1).2 a.toNat (by omega)).1.2.2.1] at h2
    rcases h1 with ⟨p1, q1, e1⟩ | ⟨p1, q1, e1⟩ | ⟨p1, q1, e1⟩ | ⟨p1, q1, e1⟩ <;> rcases h2 with ⟨p2, q2, e2⟩ | ⟨p2, q2, e2⟩ | ⟨p2, q2, e2⟩ | ⟨p2, q2, e2⟩
    all_goals first
      | (exfalso; clear q1 q2 e1 e2; omega)
      | (subst e1; subst e2; exact ⟨q2.trans q1.symm, h⟩)
      | skip
    refine ⟨q2.trans q1.symm, ?_⟩
    have k := cq_ask (d := a) (t := b) hR p1.2.2 v (by omega)
    rw [n.1.2.2.1, e1, e2] at k
    exact xx_fin k (fun c k hc => by rw [← e2]; unfold md_ask; rw [am_up_k (by omega), am_up_k (by omega), am_up_k (by omega), am_up_k (by omega)])
  · rcases h1 with ⟨p1, q1, e1⟩ | ⟨p1, q1, e1⟩ | ⟨p1, q1, e1⟩ | ⟨p1, q1, e1⟩
    · rcases h2 with ⟨p2, q2, e2⟩ | ⟨p2, q2, e2⟩ | ⟨p2, q2, e2⟩ | ⟨p2, q2, e2⟩
      · subst e1; subst e2; exact ⟨q2.trans q1.symm, h⟩
      · exact absurd p2.1.1 v
      · exact absurd p2.1.1 v
      · exact absurd p2.1.1 v
    · exact absurd p1.1.1 v
    · exact absurd p1.1.1 v
    · exact absurd p1.1.1 v
theorem xf_runaway {σ σ1 : am_H} {a r1 : Int} (h1 : Q9_runaway σ σ1 a r1) : ∀ c k : Nat, 63 ≤ c → σ1 c k = σ c k := by
  intro c k hc
  unfold Q9_runaway at h1
  rcases h1 with ⟨-, -, e⟩ | ⟨-, -, e⟩
  · rw [← e]
  · rw [← e]; exact led_drop_at (by omega)
theorem xc_runaway {σ σ1 σ2 : am_H} {a r1 r2 : Int} (h : RR σ σ) (h1 : Q9_runaway σ σ1 a r1) (h2 : Q10_runaway σ1 σ2 a r2) : r2 = r1 ∧ RR σ2 σ2 := by
  have hR : RR σ σ1 := xx_mid h (xf_runaway h1)
  have n := cq_n hR
  unfold Q9_runaway at h1
  unfold Q10_runaway at h2
  rw [n.1.1] at h2
  rcases h1 with ⟨p1, q1, e1⟩ | ⟨p1, q1, e1⟩ <;> rcases h2 with ⟨p2, q2, e2⟩ | ⟨p2, q2, e2⟩
  all_goals first
    | (exfalso; clear q1 q2 e1 e2; omega)
    | (subst e1; subst e2; exact ⟨q2.trans q1.symm, h⟩)
    | skip
  have q := cq_by hR.2.2.2.1 a
  refine ⟨by rw [q2, q1, q], ?_⟩
  have k := cq_drop a hR
  rw [e1, e2] at k
  exact xx_fin k (fun c k hc => by rw [← e2]; exact md_drop_at (by omega))
theorem xf_heir {σ σ1 : am_H} {a r1 : Int} (h1 : Q9_heir σ σ1 a r1) : ∀ c k : Nat, 63 ≤ c → σ1 c k = σ c k := by
  intro c k hc
  unfold Q9_heir at h1
  rcases h1 with ⟨-, -, e⟩ | ⟨-, -, e⟩
  · rw [← e]
  · rw [← e]; exact led_inh_at (by omega)
theorem xc_heir {σ σ1 σ2 : am_H} {a r1 r2 : Int} (h : RR σ σ) (h1 : Q9_heir σ σ1 a r1) (h2 : Q10_heir σ1 σ2 a r2) : r2 = r1 ∧ RR σ2 σ2 := by
  have hR : RR σ σ1 := xx_mid h (xf_heir h1)
  have n := cq_n hR
  unfold Q9_heir at h1
  unfold Q10_heir at h2
  rw [cq_pair hR a] at h2
  rcases h1 with ⟨p1, q1, e1⟩ | ⟨p1, q1, e1⟩ <;> rcases h2 with ⟨p2, q2, e2⟩ | ⟨p2, q2, e2⟩
  · subst e1; subst e2; exact ⟨q2.trans q1.symm, h⟩
  · exact absurd p2 p1
  · exact absurd p1 p2
  · have k := cq_inh (p := a / 10) (q := a % 10) p1.2.2.2 p1.2.2.1 hR
    refine ⟨by rw [q2, q1, k.1], ?_⟩
    have k := k.2
    rw [e1, e2] at k
    exact xx_fin k (fun c k hc => by rw [← e2]; exact md_inh_at (by omega))
theorem xf_hand {σ σ1 : am_H} {a r1 : Int} (h1 : Q9_hand σ σ1 a r1) : ∀ c k : Nat, 63 ≤ c → σ1 c k = σ c k := by
  intro c k hc
  unfold Q9_hand at h1
  rcases h1 with ⟨-, -, e⟩ | ⟨-, -, -, e⟩ | ⟨-, -, -, e⟩
  · rw [← e]
  · rw [← e, led_less_at (by omega), am_up_k (by omega)]
  · rw [← e]
theorem xc_hand {σ σ1 σ2 : am_H} {a r1 r2 : Int} (h : RR σ σ) (h1 : Q9_hand σ σ1 a r1) (h2 : Q10_hand σ1 σ2 a r2) : r2 = r1 ∧ RR σ2 σ2 := by
  have hR : RR σ σ1 := xx_mid h (xf_hand h1)
  have n := cq_n hR
  unfold Q9_hand at h1
  unfold Q10_hand at h2
  rw [n.1.2.1] at h2
  by_cases v : 0 ≤ a ∧ (0 ≤ a / 100 ∧ a / 100 < σ 16 5) ∧ (0 ≤ a % 100 ∧ a % 100 < σ 16 5)
  · have k := cq_hand (A := (a / 100).toNat) (B := (a % 100).toNat) hR (by omega) (by omega)
    have hAB : (a / 100 ≠ a % 100) ↔ ((a / 100).toNat ≠ (a % 100).toNat) := by omega
    rw [hAB, k.1] at h2
    rcases h1 with ⟨p1, q1, e1⟩ | ⟨p1, c1, q1, e1⟩ | ⟨p1, c1, q1, e1⟩ <;> rcases h2 with ⟨p2, q2, e2⟩ | ⟨p2, q2, e2⟩ | ⟨p2, q2, e2⟩
    · exact absurd v p1
    · exact absurd v p1
    · exact absurd v p1
    · exact absurd v p2
    · exact absurd c1 p2.2
    · have k := k.2 c1.1
      rw [e1, e2] at k
      exact ⟨q2.trans q1.symm, xx_fin k (fun c k hc => by rw [← e2, md_less_at (by omega), am_up_k (by omega)])⟩
    · exact absurd v p2
    · subst e1; subst e2; exact ⟨q2.trans q1.symm, h⟩
    · exact absurd p2.2 c1
  · rcases h1 with ⟨p1, q1, e1⟩ | ⟨p1, c1, q1, e1⟩ | ⟨p1, c1, q1, e1⟩
    · rcases h2 with ⟨p2, q2, e2⟩ | ⟨p2, q2, e2⟩ | ⟨p2, q2, e2⟩
      · subst e1; subst e2; exact ⟨q2.trans q1.symm, h⟩
      · exact absurd p2.1 v
      · exact absurd p2.1 v
    · exact absurd p1 v
    · exact absurd p1 v
theorem xf_row {σ σ1 : am_H} {a b c r1 : Int} (h1 : Q9_row σ σ1 a b c r1) : ∀ c k : Nat, 63 ≤ c → σ1 c k = σ c k := by
  intro c k hc
  unfold Q9_row at h1
  rcases h1 with ⟨-, -, e⟩ | ⟨-, -, e⟩ | ⟨p, -, e⟩
  · rw [← e]
  · rw [← e]
  · rw [← e]; exact (sf_row_e (by omega)).2.2.2.2 c k (by omega)
theorem xc_row {σ σ1 σ2 : am_H} {a b c r1 r2 : Int} (h : RR σ σ) (h1 : Q9_row σ σ1 a b c r1) (h2 : Q10_row σ1 σ2 a b c r2) : r2 = r1 ∧ RR σ2 σ2 := by
  have hR : RR σ σ1 := xx_mid h (xf_row h1)
  have n := cq_n hR
  unfold Q9_row at h1
  unfold Q10_row at h2
  rcases h1 with ⟨p1, q1, e1⟩ | ⟨p1, q1, e1⟩ | ⟨p1, q1, e1⟩ <;> rcases h2 with ⟨p2, q2, e2⟩ | ⟨p2, q2, e2⟩ | ⟨p2, q2, e2⟩
  all_goals first
    | (exfalso; clear q1 q2 e1 e2; omega)
    | (subst e1; subst e2; exact ⟨q2.trans q1.symm, h⟩)
    | skip
  refine ⟨q2.trans q1.symm, ?_⟩
  have k := cq_row (A := a.toNat) (b := b) (c := c) hR (by omega) (by omega) (by omega)
  rw [e1, e2] at k
  exact xx_fin k (fun c k hc => by rw [← e2]; exact md_row_at (by omega))
theorem xf_put {σ σ1 : am_H} {a i v r1 : Int} (h1 : Q9_put σ σ1 a i v r1) : ∀ c k : Nat, 63 ≤ c → σ1 c k = σ c k := by
  intro c k hc
  unfold Q9_put at h1
  rcases h1 with ⟨-, -, e⟩ | ⟨p, -, e⟩
  · rw [← e]
  · rw [← e]; have z := cq_ref0 p; rw [am_up_k (by omega)]
theorem xc_put {σ σ1 σ2 : am_H} {a i v r1 r2 : Int} (h : RR σ σ) (h1 : Q9_put σ σ1 a i v r1) (h2 : Q10_put σ1 σ2 a i v r2) : r2 = r1 ∧ RR σ2 σ2 := by
  have hR : RR σ σ1 := xx_mid h (xf_put h1)
  have n := cq_n hR
  unfold Q9_put at h1
  unfold Q10_put at h2
  rw [cq_refusal hR] at h2
  rcases h1 with ⟨p1, q1, e1⟩ | ⟨p1, q1, e1⟩ <;> rcases h2 with ⟨p2, q2, e2⟩ | ⟨p2, q2, e2⟩
  · subst e1; subst e2; exact ⟨q2.trans q1.symm, h⟩
  · exact absurd p2 p1
  · exact absurd p1 p2
  · have z := cq_ref0 p1
    have k := cq_put (A := a.toNat) (I := i.toNat) (v := v) hR (by omega) z.2.1 (by omega)
    rw [show 60 * a.toNat + i.toNat = (60 * a + i).toNat by omega, e1, e2] at k
    exact ⟨q2.trans q1.symm, xx_fin k (fun c k hc => by rw [← e2, am_up_k (by omega)])⟩
theorem xf_shift {σ σ1 : am_H} {a i b j n r1 : Int} (h1 : Q9_shift σ σ1 a i b j n r1) : ∀ c k : Nat, 63 ≤ c → σ1 c k = σ c k := by
  intro c k hc
  unfold Q9_shift at h1
  rcases h1 with ⟨-, -, e⟩ | ⟨-, -, e⟩ | ⟨-, -, e⟩ | ⟨-, -, e⟩ | ⟨p, -, e⟩
  · rw [← e]
  · rw [← e]
  · rw [← e]
  · rw [← e]
  · rw [← e]; exact am_cp_k (by omega)
theorem xc_shift {σ σ1 σ2 : am_H} {a i b j n r1 r2 : Int} (h : RR σ σ) (h1 : Q9_shift σ σ1 a i b j n r1) (h2 : Q10_shift σ1 σ2 a i b j n r2) : r2 = r1 ∧ RR σ2 σ2 := by
  have hR : RR σ σ1 := xx_mid h (xf_shift h1)
  have nn := cq_n hR
  unfold Q9_shift at h1
  unfold Q10_shift at h2
  by_cases v : (0 ≤ a ∧ a ≤ 5) ∧ 0 ≤ b ∧ b ≤ 5
  · have ga := cq_she hR a.toNat (by omega)
    have gb := cq_she hR b.toNat (by omega)
    rw [ga.2.1, gb.2.1, ga.2.2.1, gb.2.2.1] at h2
    have ga1 := ga.1.2.1
    have ga2 := ga.1.2.2.2.2.1
    have ga3 := ga.1.2.2.1
    have gb1 := gb.1.2.1
    have gb2 := gb.1.2.2.2.2.1
    have gb3 := gb.1.2.2.1
    have bb := nn.2.2.2.2.2.2.2.1
    have ga4 := ga.1.1
    have gb4 := gb.1.1
    have ea : (if 0 ≤ σ (51 + 2 * a.toNat) 2 then 50 + σ (51 + 2 * a.toNat) 2 else σ (51 + 2 * a.toNat) 1) = (if 0 ≤ σ (51 + 2 * a.toNat) 2 then 50 + σ (51 + 2 * a.toNat) 2 else σ (51 + 2 * a.toNat) 1) := rfl
    generalize ha : (if 0 ≤ σ (51 + 2 * a.toNat) 2 then 50 + σ (51 + 2 * a.toNat) 2 else σ (51 + 2 * a.toNat) 1) = X at h2
    generalize hb : (if 0 ≤ σ (51 + 2 * b.toNat) 2 then 50 + σ (51 + 2 * b.toNat) 2 else σ (51 + 2 * b.toNat) 1) = Y at h2
    have hX : (0 ≤ σ (51 + 2 * a.toNat) 2 ∧ X = 50 + σ (51 + 2 * a.toNat) 2) ∨ (σ (51 + 2 * a.toNat) 2 < 0 ∧ X = σ (51 + 2 * a.toNat) 1) := by
      rw [← ha]
      by_cases e : 0 ≤ σ (51 + 2 * a.toNat) 2
      · rw [if_pos e]; exact Or.inl ⟨e, rfl⟩
      · rw [if_neg e]; exact Or.inr ⟨by omega, rfl⟩
    have hY : (0 ≤ σ (51 + 2 * b.toNat) 2 ∧ Y = 50 + σ (51 + 2 * b.toNat) 2) ∨ (σ (51 + 2 * b.toNat) 2 < 0 ∧ Y = σ (51 + 2 * b.toNat) 1) := by
      rw [← hb]
      by_cases e : 0 ≤ σ (51 + 2 * b.toNat) 2
      · rw [if_pos e]; exact Or.inl ⟨e, rfl⟩
      · rw [if_neg e]; exact Or.inr ⟨by omega, rfl⟩
    clear ea ha hb nn ga gb
    rcases h1 with ⟨p1, q1, e1⟩ | ⟨p1, q1, e1⟩ | ⟨p1, q1, e1⟩ | ⟨p1, q1, e1⟩ | ⟨p1, q1, e1⟩ <;> rcases h2 with ⟨p2, q2, e2⟩ | ⟨p2, q2, e2⟩ | ⟨p2, q2, e2⟩ | ⟨p2, q2, e2⟩ | ⟨p2, q2, e2⟩
    all_goals first
      | (exfalso; clear q1 q2 e1 e2; omega)
      | (subst e1; subst e2; exact ⟨q2.trans q1.symm, h⟩)
      | skip
    refine ⟨q2.trans q1.symm, ?_⟩
    have k := cq_shift (A := a.toNat) (B := b.toNat) (I := i.toNat) (J := j.toNat) (N := n.toNat) hR (by omega) (by omega) p1.2.2.1.2 (by omega) (by omega)
    rw [show 60 * a.toNat + i.toNat = (60 * a + i).toNat by omega, show 60 * b.toNat + j.toNat = (60 * b + j).toNat by omega, e1, e2] at k
    exact xx_fin k (fun c k hc => by rw [← e2, md_c2_at (by omega), md_c1_at (by omega)])
  · rcases h1 with ⟨p1, q1, e1⟩ | ⟨p1, q1, e1⟩ | ⟨p1, q1, e1⟩ | ⟨p1, q1, e1⟩ | ⟨p1, q1, e1⟩
    · rcases h2 with ⟨p2, q2, e2⟩ | ⟨p2, q2, e2⟩ | ⟨p2, q2, e2⟩ | ⟨p2, q2, e2⟩ | ⟨p2, q2, e2⟩
      · subst e1; subst e2; exact ⟨q2.trans q1.symm, h⟩
      · exact absurd p2.1 v
      · exact absurd p2.1 v
      · exact absurd p2.1 v
      · exact absurd p2.1 v
    · exact absurd p1.1 v
    · exact absurd p1.1 v
    · exact absurd p1.1 v
    · exact absurd p1.1 v
