/-! days go: what they make of the table -/
theorem c_fr_up {σ τ : am_H} {c k : Nat} {v v' : Int} (h : c_fr σ τ) (hv : v = v') : c_fr (am_up σ c k v) (am_up τ c k v') := fun c' k' h1 h2 => by
  subst hv
  unfold am_up
  by_cases e : c' = c ∧ k' = k
  · rw [if_pos e, if_pos e]
  · rw [if_neg e, if_neg e]; exact h c' k' h1 h2
theorem md_fr_up {σ τ : am_H} {c k : Nat} {v v' : Int} (h : md_fr σ τ) (hv : v = v') : md_fr (am_up σ c k v) (am_up τ c k v') := fun c' k' h1 h2 => by
  subst hv
  unfold am_up
  by_cases e : c' = c ∧ k' = k
  · rw [if_pos e, if_pos e]
  · rw [if_neg e, if_neg e]; exact h c' k' h1 h2
theorem led_less_fr {σ τ : am_H} (h : c_fr σ τ) (k : Nat) (b : Int) : c_fr (led_less σ k b) (led_less τ k b) := by
  have e : τ 19 k = σ 19 k := h 19 k (by decide) (by decide)
  unfold led_less
  rw [e]
  split
  · exact c_fr_up (c_fr_up h rfl) rfl
  · exact c_fr_up h rfl
theorem led_work_fr {σ τ : am_H} (h : c_fr σ τ) (k : Nat) (w : Int) : c_fr (led_work σ k w) (led_work τ k w) := by
  have e : τ 21 k = σ 21 k := h 21 k (by decide) (by decide)
  unfold led_work
  rw [e]
  (repeat' split)
  · exact led_less_fr h _ _
  · exact c_fr_up h rfl
  · exact led_less_fr (c_fr_up h rfl) _ _
theorem dia_lead_fr {σ τ : am_H} (h : c_fr σ τ) (a q : Nat) (x y w : Int) : c_fr (dia_lead σ a q x y w) (dia_lead τ a q x y w) := by
  unfold dia_lead
  exact c_fr_up (c_fr_up (c_fr_up h rfl) rfl) (by rw [h 28 q (by decide) (by decide)])
theorem dia_lead_at {σ : am_H} {a q c j : Nat} {x y w : Int} (h : c ≠ 26 ∧ c ≠ 27 ∧ c ≠ 28) : dia_lead σ a q x y w c j = σ c j := by
  unfold dia_lead
  rw [am_up_k (by omega), am_up_k (by omega), am_up_k (by omega)]
theorem led_work_at {σ : am_H} {k c j : Nat} {w : Int} (h : (c ≠ 19 ∧ c ≠ 21) ∨ j ≠ k) : led_work σ k w c j = σ c j := by
  unfold led_work
  (repeat' split)
  · exact led_less_at h
  · exact am_up_k (by omega)
  · rw [led_less_at h]; exact am_up_k (by omega)
theorem led_work_d {σ : am_H} {k : Nat} {w : Int} : led_work σ k w 19 k = σ 19 k ∨ led_work σ k w 19 k = σ 19 k - 1 := by
  unfold led_work
  (repeat' split)
  · exact Or.inr led_less_d
  · exact Or.inl (am_up_k (by omega))
  · refine Or.inr ?_
    rw [led_less_d, am_up_k (by omega)]
theorem dia_end_fr {σ τ : am_H} (h : c_fr σ τ) : c_fr (dia_end σ) (dia_end τ) := by
  have e6 : τ 22 6 = σ 22 6 := h 22 6 (by decide) (by decide)
  have e7 : τ 22 7 = σ 22 7 := h 22 7 (by decide) (by decide)
  unfold dia_end
  rw [e6, e7]
  refine c_fr_up (fun c k h1 h2 => ?_) rfl
  unfold dia_endL
  rw [h 24 k (by decide) (by decide), e7, h c k h1 h2]
theorem dia_end_at {σ : am_H} {c k : Nat} (h : c ≠ 25) (h2 : c ≠ 22 ∨ k ≠ 7) : dia_end σ c k = σ c k := by
  unfold dia_end
  rw [am_up_k (by omega), dia_endL_at h]
theorem dia_end_7 {σ : am_H} : dia_end σ 22 7 = σ 22 7 + 1 := by
  unfold dia_end
  rw [am_up_eq]
abbrev go_z (z : Int) : Int := w32 (w32 (z * 1103515245) + 12345)
abbrev go_ill (now ill z : Int) : Prop := ¬ now % 4 = 3 ∧ w32 ((am_ushr z 8).tmod 12) < ill
def c_whole (σ : am_H) (ch : Int) : Int := if σ 20 ch.toNat = 12 ∨ σ 2 (σ 20 ch.toNat).toNat ≤ σ 2 (σ 22 7 / 4).toNat then 1 else 0
def c_wk (σ : am_H) (p ch : Int) : am_H := led_work (dia_lead σ (σ 22 7 * 8 + p).toNat (σ 18 ch.toNat).toNat (σ 18 ch.toNat) ch (c_wv σ p (σ 18 ch.toNat) (σ 22 7))) ch.toNat (c_whole σ ch)
def c_ch (σ : am_H) (p : Int) : Int := c_of1 σ (c_sel σ p (σ 22 7) (σ 22 6).toNat).1
theorem c_whole_fr {σ τ : am_H} (h : c_fr σ τ) (ch : Int) : c_whole τ ch = c_whole σ ch := by
  unfold c_whole
  rw [h 20 _ (by decide) (by decide), h 2 _ (by decide) (by decide), h 22 7 (by decide) (by decide), h 2 _ (by decide) (by decide)]
theorem c_wk_fr {σ τ : am_H} (h : c_fr σ τ) (p ch : Int) : c_fr (c_wk σ p ch) (c_wk τ p ch) := by
  unfold c_wk
  rw [c_whole_fr h, c_wv_fr h, h 22 7 (by decide) (by decide), h 18 _ (by decide) (by decide)]
  exact led_work_fr (dia_lead_fr h _ _ _ _ _) _ _
theorem c_ch_fr {σ τ : am_H} (h : c_fr σ τ) (p : Int) : c_ch τ p = c_ch σ p := by
  unfold c_ch c_of1
  rw [c_sel_fr h, h 22 7 (by decide) (by decide), h 22 6 (by decide) (by decide), h 23 _ (by decide) (by decide)]
theorem c_wk_at {σ : am_H} {p ch : Int} {c j : Nat} (h : c ≠ 19 ∧ c ≠ 21 ∧ c ≠ 26 ∧ c ≠ 27 ∧ c ≠ 28) : c_wk σ p ch c j = σ c j := by
  unfold c_wk
  rw [led_work_at (by omega), dia_lead_at (by omega)]
def CGo (σ : am_H) : Prop := (0 ≤ σ 1 2 ∧ σ 1 2 ≤ 8) ∧ (0 ≤ σ 16 5 ∧ σ 16 5 ≤ 20) ∧ DayV σ ∧ CLaw σ ∧ SkiV σ ∧ DebV σ ∧ (0 ≤ σ 22 6 ∧ σ 22 6 ≤ 30) ∧ AskV σ
theorem CGo_fr {σ τ : am_H} (h : c_fr σ τ) (g : CGo σ) : CGo τ := by
  obtain ⟨g1, g2, g3, g4, g5, g6, g7, g8⟩ := g
  exact ⟨by rw [h 1 2 (by decide) (by decide)]; exact g1, by rw [h 16 5 (by decide) (by decide)]; exact g2, c_day_fr h g3, (c_lw_fr h).2 g4, c_ski_fr h g5, c_deb_fr h g6, by rw [h 22 6 (by decide) (by decide)]; exact g7, c_ask_fr h g8⟩
/-- the law is another table's if these cells are alike -/
theorem CLaw_of {σ τ : am_H} (h7 : τ 9 7 = σ 9 7) (h11 : ∀ k, τ 11 k = σ 11 k) (g : CLaw σ) : CLaw τ := by
  have hr : rcl τ 11 (σ 9 7).toNat = rcl σ 11 (σ 9 7).toNat := rcl_congr _ (fun k _ => h11 k)
  unfold CLaw
  rw [h7, hr]
  exact g
theorem c_ch_bd {σ : am_H} {p : Int} (g : CGo σ) : (c_ch σ p < 0 ∧ c_ch σ p = -2) ∨ (0 ≤ c_ch σ p ∧ c_ch σ p < σ 16 5 ∧ 0 < σ 19 (c_ch σ p).toNat ∧ σ 17 (c_ch σ p).toNat = p) := by
  obtain ⟨g1, g2, g3, g4, g5, g6, g7, g8⟩ := g
  unfold c_ch
  obtain ⟨b1, b2, b3, b4⟩ := as_sel_bd (c_P σ p (σ 22 7)) (c_V σ (σ 22 7)) (σ 22 6).toNat
  unfold c_of1 c_sel
  by_cases h : (as_sel (c_P σ p (σ 22 7)) (c_V σ (σ 22 7)) (σ 22 6).toNat).1 < 0
  · rw [if_pos h]; exact Or.inl ⟨by decide, rfl⟩
  · rw [if_neg h]
    have hp := (b3 (by omega)).1
    unfold c_P at hp
    have hp := of_decide_eq_true hp
    have ha := g8 (as_sel (c_P σ p (σ 22 7)) (c_V σ (σ 22 7)) (σ 22 6).toNat).1.toNat (by omega)
    exact Or.inr ⟨ha.1, ha.2, hp.2.2.1.2, hp.2.2.2⟩
theorem CGo_wk {σ : am_H} {p ch : Int} (g : CGo σ) (h : 0 ≤ ch ∧ 0 < σ 19 ch.toNat) : CGo (c_wk σ p ch) := by
  obtain ⟨g1, g2, g3, g4, g5, g6, g7, g8⟩ := g
  refine ⟨by rw [c_wk_at (by decide)]; exact g1, by rw [c_wk_at (by decide)]; exact g2, fun n hn => ?_, CLaw_of (c_wk_at (by decide)) (fun k => c_wk_at (by decide)) g4, ⟨fun k hk => by rw [c_wk_at (by decide)]; exact g5.1 k hk, fun k hk => ?_⟩, fun n hn => ?_, by rw [c_wk_at (by decide)]; exact g7, fun k hk => ?_⟩
  · rw [c_wk_at (by decide)] at hn
    have hd := g3 n hn
    by_cases e : n = ch.toNat
    · subst e
      unfold c_wk
      rcases led_work_d (σ := dia_lead σ (σ 22 7 * 8 + p).toNat (σ 18 ch.toNat).toNat (σ 18 ch.toNat) ch (c_wv σ p (σ 18 ch.toNat) (σ 22 7))) (k := ch.toNat) (w := c_whole σ ch) with q | q <;> rw [q, dia_lead_at (by decide)] <;> omega
    · unfold c_wk
      rw [led_work_at (Or.inr e), dia_lead_at (by decide)]
      exact hd
  · rw [c_wk_at (by decide)] at hk
    rw [c_wk_at (by decide)]; exact g5.2 k hk
  · rw [c_wk_at (by decide)] at hn
    rw [c_wk_at (by decide), c_wk_at (by decide), c_wk_at (by decide), c_wk_at (by decide)]; exact g6 n hn
  · rw [c_wk_at (by decide)] at hk
    rw [c_wk_at (by decide), c_wk_at (by decide)]; exact g8 k hk
theorem CGo_end {σ : am_H} (g : CGo σ) : CGo (dia_end σ) := by
  obtain ⟨g1, g2, g3, g4, g5, g6, g7, g8⟩ := g
  refine ⟨by rw [dia_end_at (by decide) (by decide)]; exact g1, by rw [dia_end_at (by decide) (by decide)]; exact g2, fun n hn => ?_, CLaw_of (dia_end_at (by decide) (by decide)) (fun k => dia_end_at (by decide) (Or.inl (by decide))) g4, ⟨fun k hk => by rw [dia_end_at (by decide) (Or.inl (by decide))]; exact g5.1 k hk, fun k hk => ?_⟩, fun n hn => ?_, by rw [dia_end_at (by decide) (by decide)]; exact g7, fun k hk => ?_⟩
  · rw [dia_end_at (by decide) (by decide)] at hn
    rw [dia_end_at (by decide) (Or.inl (by decide))]; exact g3 n hn
  · rw [dia_end_at (by decide) (by decide)] at hk
    rw [dia_end_at (by decide) (Or.inl (by decide))]; exact g5.2 k hk
  · rw [dia_end_at (by decide) (by decide)] at hn
    rw [dia_end_at (c := 17) (by decide) (Or.inl (by decide)), dia_end_at (c := 18) (by decide) (Or.inl (by decide)), dia_end_at (c := 20) (by decide) (Or.inl (by decide)), dia_end_at (c := 1) (k := 2) (by decide) (by decide)]; exact g6 n hn
  · rw [dia_end_at (by decide) (by decide)] at hk
    rw [dia_end_at (by decide) (Or.inl (by decide)), dia_end_at (by decide) (by decide)]; exact g8 k hk
abbrev go_S : Type := Int × Int × am_H
abbrev c_g1 (s : go_S) (p : Int) : Prop := ¬ go_ill (s.2.2 22 7) (s.2.2 1 4) (go_z s.1) ∧ 0 ≤ c_ch s.2.2 p
def c_pp (p : Nat) (s : go_S) : go_S := (go_z s.1, (if c_g1 s p then s.2.1 + 1 else s.2.1), (if c_g1 s p then c_wk s.2.2 p (c_ch s.2.2 p) else s.2.2))
def c_day (s : go_S) : go_S := ((am_it c_pp (s.2.2 1 2).toNat s).1, (am_it c_pp (s.2.2 1 2).toNat s).2.1, dia_end (am_it c_pp (s.2.2 1 2).toNat s).2.2)
def c_go (n : Nat) (z : Int) (σ : am_H) : go_S := am_it (fun _ s => c_day s) n (z, 0, σ)
/-- the reference's -/
theorem md_less_fr {σ τ : am_H} (h : md_fr σ τ) (k : Nat) (b : Int) : md_fr (md_less σ k b) (md_less τ k b) := by
  unfold md_less
  rw [h 68 _ (by decide) (Or.inl (by decide)), h 68 _ (by decide) (Or.inl (by decide))]
  exact md_fr_up (md_fr_up h rfl) rfl
abbrev md_wh (σ : am_H) (k : Nat) (day : Int) : Prop := σ 68 (5 * k + 3) = 12 ∨ σ 64 (σ 68 (5 * k + 3)).toNat ≤ σ 64 (day / 4).toNat
def md_off (σ : am_H) (k : Nat) (day : Int) : am_H := if md_wh σ k day then md_less σ k 1 else if σ 68 (5 * k + 4) = 1 then md_less (am_up σ 68 (5 * k + 4) 0) k 1 else am_up σ 68 (5 * k + 4) 1
theorem md_off_fr {σ τ : am_H} (h : md_fr σ τ) (k : Nat) (day : Int) : md_fr (md_off σ k day) (md_off τ k day) := by
  unfold md_off md_wh
  rw [h 68 _ (by decide) (Or.inl (by decide)), h 64 _ (by decide) (Or.inl (by decide)), h 64 _ (by decide) (Or.inl (by decide)), h 68 _ (by decide) (Or.inl (by decide))]
  (repeat' split)
  · exact md_less_fr h _ _
  · exact md_less_fr (md_fr_up h rfl) _ _
  · exact md_fr_up h rfl
theorem md_off_at {σ : am_H} {k c j : Nat} {day : Int} (h : c ≠ 68 ∨ (j ≠ 5 * k + 2 ∧ j ≠ 5 * k + 4)) : md_off σ k day c j = σ c j := by
  unfold md_off
  (repeat' split)
  · exact md_less_at h
  · rw [md_less_at h]; exact am_up_k (by omega)
  · exact am_up_k (by omega)
theorem md_off_d {σ : am_H} {k : Nat} {day : Int} : md_off σ k day 68 (5 * k + 2) = σ 68 (5 * k + 2) ∨ md_off σ k day 68 (5 * k + 2) = σ 68 (5 * k + 2) - 1 := by
  unfold md_off
  (repeat' split)
  · refine Or.inr ?_
    unfold md_less
    rw [am_up_k (by omega), am_up_eq]
  · refine Or.inr ?_
    unfold md_less
    rw [am_up_k (by omega), am_up_eq, am_up_k (by omega)]
  · exact Or.inl (am_up_k (by omega))
def md_mk (σ : am_H) (kk : Nat) (x y : Int) : am_H := am_up (am_up σ 74 kk x) 75 kk y
def md_got (σ : am_H) (p q now : Int) : am_H := am_up σ 73 q.toNat (w32 (σ 73 q.toNat + md_wv σ p q now))
def md_a (σ : am_H) (p : Int) : Int := if go_ill (σ 63 9) (σ 64 21) (σ 63 25) then -1 else (md_sel σ p (σ 63 9) (σ 63 20).toNat).1
def md_nx (σ : am_H) (a : Int) : Int := σ 72 (3 * a.toNat)
def md_pw (σ : am_H) (p : Int) (kk : Nat) (a : Int) : am_H := md_mk (md_off (md_got (md_mk σ kk (-2) (-2)) p (σ 68 (5 * (md_nx σ a).toNat + 1)) (σ 63 9)) (md_nx σ a).toNat (σ 63 9)) kk (σ 68 (5 * (md_nx σ a).toNat + 1)) (md_nx σ a)
abbrev md_zz (σ : am_H) : am_H := am_up σ 63 25 (go_z (σ 63 25))
def md_p2 (p : Nat) (σ : am_H) : Int × am_H := if md_a σ p < 0 then (0, md_mk σ (8 * σ 63 9 + (p : Int)).toNat (-2) (-2)) else (1, md_pw σ p (8 * σ 63 9 + (p : Int)).toNat (md_a σ p))
def md_pp (p : Nat) (s : Int × am_H) : Int × am_H := (s.1 + (md_p2 p (md_zz s.2)).1, (md_p2 p (md_zz s.2)).2)
def md_rest (σ : am_H) (n : Nat) : am_H := fun c k => if (c = 74 ∨ c = 75) ∧ (8 * σ 63 9 + σ 63 6).toNat ≤ k ∧ k < (8 * σ 63 9 + σ 63 6).toNat + n then -2 else σ c k
def md_dn (σ : am_H) (n : Nat) : am_H := fun c k => if c = 72 ∧ k % 3 = 2 ∧ k / 3 < n ∧ σ 72 (3 * (k / 3) + 1) = σ 63 9 then 1 else σ c k
def md_end (σ : am_H) : am_H := am_up (md_dn (md_rest σ (8 - σ 63 6).toNat) (σ 63 20).toNat) 63 9 (σ 63 9 + 1)
def md_day (σ : am_H) : Int × am_H := ((am_it md_pp (σ 63 6).toNat (0, σ)).1, md_end (am_it md_pp (σ 63 6).toNat (0, σ)).2)
def md_gs (s : Int × am_H) : Int × am_H := (s.1 + (md_day s.2).1, (md_day s.2).2)
def md_go (n : Nat) (z : Int) (σ : am_H) : Int × am_H := am_it (fun _ s => md_gs s) n (0, am_up σ 63 25 z)
theorem md_mk_fr {σ τ : am_H} (h : md_fr σ τ) (kk : Nat) (x y : Int) : md_fr (md_mk σ kk x y) (md_mk τ kk x y) := md_fr_up (md_fr_up h rfl) rfl
theorem md_mk_at {σ : am_H} {kk c j : Nat} {x y : Int} (h : c ≠ 74 ∧ c ≠ 75) : md_mk σ kk x y c j = σ c j := by
  unfold md_mk
  rw [am_up_k (by omega), am_up_k (by omega)]
theorem md_got_fr {σ τ : am_H} (h : md_fr σ τ) (p q now : Int) : md_fr (md_got σ p q now) (md_got τ p q now) := md_fr_up h (by rw [h 73 _ (by decide) (Or.inl (by decide)), md_wv_fr h])
theorem md_got_at {σ : am_H} {p q now : Int} {c j : Nat} (h : c ≠ 73) : md_got σ p q now c j = σ c j := am_up_k (by omega)
theorem md_a_fr {σ τ : am_H} (h : md_fr σ τ) (p : Int) : md_a τ p = md_a σ p := by
  unfold md_a
  rw [h 63 9 (by decide) (by decide), h 64 21 (by decide) (Or.inl (by decide)), h 63 25 (by decide) (by decide), h 63 20 (by decide) (by decide), md_sel_fr h]
theorem md_pw_fr {σ τ : am_H} (h : md_fr σ τ) (p : Int) (kk : Nat) (a : Int) : md_fr (md_pw σ p kk a) (md_pw τ p kk a) := by
  unfold md_pw md_nx
  rw [h 72 _ (by decide) (Or.inl (by decide)), h 68 _ (by decide) (Or.inl (by decide)), h 63 9 (by decide) (by decide)]
  exact md_mk_fr (md_off_fr (md_got_fr (md_mk_fr h _ _ _) _ _ _) _ _) _ _ _
theorem md_p2_fr {σ τ : am_H} (h : md_fr σ τ) (p : Nat) : (md_p2 p τ).1 = (md_p2 p σ).1 ∧ md_fr (md_p2 p σ).2 (md_p2 p τ).2 := by
  unfold md_p2
  rw [md_a_fr h, h 63 9 (by decide) (by decide)]
  split
  · exact ⟨rfl, md_mk_fr h _ _ _⟩
  · exact ⟨rfl, md_pw_fr h _ _ _⟩
theorem md_pp_fr {s t : Int × am_H} (h1 : t.1 = s.1) (h : md_fr s.2 t.2) (p : Nat) : (md_pp p t).1 = (md_pp p s).1 ∧ md_fr (md_pp p s).2 (md_pp p t).2 := by
  have hz : md_fr (md_zz s.2) (md_zz t.2) := md_fr_up h (by rw [h 63 25 (by decide) (by decide)])
  have h2 := md_p2_fr hz p
  exact ⟨by show t.1 + _ = s.1 + _; rw [h1, h2.1], h2.2⟩
theorem md_it_fr {s t : Int × am_H} (h1 : t.1 = s.1) (h : md_fr s.2 t.2) : ∀ n : Nat, (am_it md_pp n t).1 = (am_it md_pp n s).1 ∧ md_fr (am_it md_pp n s).2 (am_it md_pp n t).2
  | 0 => ⟨h1, h⟩
  | n + 1 => md_pp_fr (md_it_fr h1 h n).1 (md_it_fr h1 h n).2 n
theorem md_rest_fr {σ τ : am_H} (h : md_fr σ τ) (n : Nat) : md_fr (md_rest σ n) (md_rest τ n) := fun c k h1 h2 => by
  unfold md_rest
  rw [h 63 9 (by decide) (by decide), h 63 6 (by decide) (by decide), h c k h1 h2]
theorem md_rest_at {σ : am_H} {n c k : Nat} (h : c ≠ 74 ∧ c ≠ 75) : md_rest σ n c k = σ c k := by
  unfold md_rest; rw [if_neg (by omega)]
theorem md_dn_fr {σ τ : am_H} (h : md_fr σ τ) (n : Nat) : md_fr (md_dn σ n) (md_dn τ n) := fun c k h1 h2 => by
  unfold md_dn
  rw [h 63 9 (by decide) (by decide), h 72 _ (by decide) (Or.inl (by decide)), h c k h1 h2]
theorem md_dn_at {σ : am_H} {n c k : Nat} (h : c ≠ 72 ∨ k % 3 ≠ 2) : md_dn σ n c k = σ c k := by
  unfold md_dn; rw [if_neg (by omega)]
theorem md_end_fr {σ τ : am_H} (h : md_fr σ τ) : md_fr (md_end σ) (md_end τ) := by
  unfold md_end
  rw [h 63 9 (by decide) (by decide), h 63 6 (by decide) (by decide), h 63 20 (by decide) (by decide)]
  exact md_fr_up (md_dn_fr (md_rest_fr h _) _) rfl
theorem md_day_fr2 {σ τ : am_H} (h : md_fr σ τ) : (md_day τ).1 = (md_day σ).1 ∧ md_fr (md_day σ).2 (md_day τ).2 := by
  unfold md_day
  rw [h 63 6 (by decide) (by decide)]
  have hi := md_it_fr (s := (0, σ)) (t := (0, τ)) rfl h (σ 63 6).toNat
  exact ⟨hi.1, md_end_fr hi.2⟩
def MGo (σ : am_H) : Prop := (0 ≤ σ 63 6 ∧ σ 63 6 ≤ 8) ∧ (0 ≤ σ 63 7 ∧ σ 63 7 ≤ 20) ∧ (∀ n : Nat, (n : Int) < σ 63 7 → 0 ≤ σ 68 (5 * n + 2) ∧ σ 68 (5 * n + 2) ≤ 9) ∧ MLaw σ ∧ MskV σ ∧ MdeV σ ∧ (0 ≤ σ 63 20 ∧ σ 63 20 ≤ 30) ∧ MasV σ
theorem MGo_fr {σ τ : am_H} (h : md_fr σ τ) (g : MGo σ) : MGo τ := by
  obtain ⟨g1, g2, g3, g4, g5, g6, g7, g8⟩ := g
  exact ⟨by rw [h 63 6 (by decide) (by decide)]; exact g1, by rw [h 63 7 (by decide) (by decide)]; exact g2, md_day_fr h g3, (md_lw_fr h).2 g4, md_ski_fr h g5, md_deb_fr h g6, by rw [h 63 20 (by decide) (by decide)]; exact g7, md_ask_fr h g8⟩
theorem MLaw_of {σ τ : am_H} (h7 : τ 63 13 = σ 63 13) (h70 : ∀ k, τ 70 k = σ 70 k) (g : MLaw σ) : MLaw τ := by
  have hr : lx_cmp (τ 70) (σ 63 13).toNat = lx_cmp (σ 70) (σ 63 13).toNat := lx_cmp_congr (fun k _ => h70 k)
  unfold MLaw
  rw [h7, hr]
  exact g
/-- what a day's parts leave as it is, in one -/
theorem MGo_of {σ τ : am_H} (g : MGo σ) (h63 : ∀ k, k ≠ 9 → k ≠ 25 → τ 63 k = σ 63 k) (h64 : ∀ k, τ 64 k = σ 64 k) (h70 : ∀ k, τ 70 k = σ 70 k) (h72 : ∀ k, k % 3 ≠ 2 → τ 72 k = σ 72 k) (h68 : ∀ k, k % 5 ≠ 2 → k % 5 ≠ 4 → τ 68 k = σ 68 k) (hd : ∀ n : Nat, (n : Int) < σ 63 7 → 0 ≤ τ 68 (5 * n + 2) ∧ τ 68 (5 * n + 2) ≤ 9) : MGo τ := by
  obtain ⟨g1, g2, g3, g4, g5, g6, g7, g8⟩ := g
  refine ⟨by rw [h63 6 (by decide) (by decide)]; exact g1, by rw [h63 7 (by decide) (by decide)]; exact g2, fun n hn => hd n (by rw [h63 7 (by decide) (by decide)] at hn; exact hn), MLaw_of (h63 13 (by decide) (by decide)) h70 g4, ⟨fun k hk => by rw [h64]; exact g5.1 k hk, fun k hk => ?_⟩, fun n hn => ?_, by rw [h63 20 (by decide) (by decide)]; exact g7, fun k hk => ?_⟩
  · rw [h63 6 (by decide) (by decide)] at hk
    rw [h64]; exact g5.2 k hk
  · rw [h63 7 (by decide) (by decide)] at hn
    rw [h68 _ (by omega) (by omega), h68 _ (by omega) (by omega), h68 _ (by omega) (by omega), h63 6 (by decide) (by decide)]; exact g6 n hn
  · rw [h63 20 (by decide) (by decide)] at hk
    rw [h72 _ (by omega), h72 _ (by omega), h63 7 (by decide) (by decide)]; exact g8 k hk
theorem MGo_zz {σ : am_H} (g : MGo σ) (z : Int) : MGo (am_up σ 63 25 z) :=
  MGo_of g (fun k _ h => am_up_k (by omega)) (fun k => am_up_k (by omega)) (fun k => am_up_k (by omega)) (fun k _ => am_up_k (by omega)) (fun k _ _ => am_up_k (by omega)) (fun n hn => by rw [am_up_k (by omega)]; exact g.2.2.1 n hn)
theorem MGo_mk {σ : am_H} (g : MGo σ) (kk : Nat) (x y : Int) : MGo (md_mk σ kk x y) :=
  MGo_of g (fun k _ _ => md_mk_at (by decide)) (fun k => md_mk_at (by decide)) (fun k => md_mk_at (by decide)) (fun k _ => md_mk_at (by decide)) (fun k _ _ => md_mk_at (by decide)) (fun n hn => by rw [md_mk_at (by decide)]; exact g.2.2.1 n hn)
theorem MGo_got {σ : am_H} (g : MGo σ) (p q now : Int) : MGo (md_got σ p q now) :=
  MGo_of g (fun k _ _ => md_got_at (by decide)) (fun k => md_got_at (by decide)) (fun k => md_got_at (by decide)) (fun k _ => md_got_at (by decide)) (fun k _ _ => md_got_at (by decide)) (fun n hn => by rw [md_got_at (by decide)]; exact g.2.2.1 n hn)
theorem MGo_off {σ : am_H} (g : MGo σ) {k : Nat} (hk : 0 < σ 68 (5 * k + 2)) (day : Int) : MGo (md_off σ k day) :=
  MGo_of g (fun k _ _ => md_off_at (Or.inl (by decide))) (fun k => md_off_at (Or.inl (by decide))) (fun k => md_off_at (Or.inl (by decide))) (fun k _ => md_off_at (Or.inl (by decide))) (fun j h1 h2 => md_off_at (by omega)) (fun n hn => by
    have hd := g.2.2.1 n hn
    by_cases e : n = k
    · subst e
      rcases md_off_d (σ := σ) (k := n) (day := day) with q | q <;> omega
    · rw [md_off_at (by omega)]; exact hd)
theorem md_a_bd {σ : am_H} {p : Int} (g : MGo σ) : (md_a σ p = -1) ∨ (0 ≤ md_a σ p ∧ md_a σ p < σ 63 20 ∧ (0 ≤ md_nx σ (md_a σ p) ∧ md_nx σ (md_a σ p) < σ 63 7) ∧ 0 < σ 68 (5 * (md_nx σ (md_a σ p)).toNat + 2) ∧ σ 68 (5 * (md_nx σ (md_a σ p)).toNat) = p) := by
  obtain ⟨g1, g2, g3, g4, g5, g6, g7, g8⟩ := g
  unfold md_a
  split
  · exact Or.inl rfl
  · obtain ⟨b1, b2, b3, b4⟩ := as_sel_bd (md_P σ p (σ 63 9)) (md_V σ) (σ 63 20).toNat
    unfold md_sel
    by_cases h : (as_sel (md_P σ p (σ 63 9)) (md_V σ) (σ 63 20).toNat).1 < 0
    · exact Or.inl (by omega)
    · have hp := (b3 (by omega)).1
      unfold md_P at hp
      have hp := of_decide_eq_true hp
      have ha := g8 (as_sel (md_P σ p (σ 63 9)) (md_V σ) (σ 63 20).toNat).1.toNat (by omega)
      exact Or.inr ⟨by omega, by omega, ha.1, hp.2.2.1, hp.2.2.2⟩
theorem MGo_p2 {σ : am_H} (g : MGo σ) (p : Nat) : MGo (md_p2 p σ).2 := by
  unfold md_p2
  split
  · exact MGo_mk g _ _ _
  · rename_i h
    rcases md_a_bd (p := (p : Int)) g with h' | ⟨h1, h2, h3, h4, h5⟩
    · omega
    · unfold md_pw
      refine MGo_mk (MGo_off (MGo_got (MGo_mk g _ _ _) _ _ _) ?_ _) _ _ _
      rw [md_got_at (by decide), md_mk_at (by decide)]
      exact h4
theorem md_p2_at {σ : am_H} {p c k : Nat} (h : c ≠ 68 ∧ c ≠ 73 ∧ c ≠ 74 ∧ c ≠ 75) : (md_p2 p σ).2 c k = σ c k := by
  unfold md_p2
  split
  · exact md_mk_at (by omega)
  · show md_pw σ p _ _ c k = _
    unfold md_pw
    rw [md_mk_at (by omega), md_off_at (by omega), md_got_at (by omega), md_mk_at (by omega)]
theorem MGo_end {σ : am_H} (g : MGo σ) : MGo (md_end σ) := by
  unfold md_end
  refine MGo_of g (fun k h1 h2 => ?_) (fun k => ?_) (fun k => ?_) (fun k h => ?_) (fun k _ _ => ?_) (fun n hn => ?_)
  · rw [am_up_k (by omega), md_dn_at (by omega), md_rest_at (by omega)]
  · rw [am_up_k (by omega), md_dn_at (by omega), md_rest_at (by omega)]
  · rw [am_up_k (by omega), md_dn_at (by omega), md_rest_at (by omega)]
  · rw [am_up_k (by omega), md_dn_at (by omega), md_rest_at (by omega)]
  · rw [am_up_k (by omega), md_dn_at (by omega), md_rest_at (by omega)]
  · rw [am_up_k (by omega), md_dn_at (by omega), md_rest_at (by omega)]; exact g.2.2.1 n hn
theorem md_pp_st {s : Int × am_H} (g : MGo s.2) : ∀ n : Nat, MGo (am_it md_pp n s).2 ∧ (∀ k, k ≠ 25 → (am_it md_pp n s).2 63 k = s.2 63 k) ∧ s.1 ≤ (am_it md_pp n s).1 ∧ (am_it md_pp n s).1 ≤ s.1 + n
  | 0 => ⟨g, fun _ _ => rfl, by show s.1 ≤ s.1; omega, by show s.1 ≤ s.1 + 0; omega⟩
  | n + 1 => by
    obtain ⟨i1, i2, i3, i4⟩ := md_pp_st g n
    have hr : (am_it md_pp (n + 1) s) = md_pp n (am_it md_pp n s) := rfl
    have h01 : ∀ τ : am_H, 0 ≤ (md_p2 n τ).1 ∧ (md_p2 n τ).1 ≤ 1 := fun τ => by
      unfold md_p2
      split
      · exact ⟨Int.le_refl _, show (0 : Int) ≤ 1 by decide⟩
      · exact ⟨show (0 : Int) ≤ 1 by decide, Int.le_refl _⟩
    have h0 := h01 (md_zz (am_it md_pp n s).2)
    rw [hr]
    refine ⟨MGo_p2 (MGo_zz i1 _) n, fun k hk => ?_, ?_, ?_⟩
    · show (md_p2 n (md_zz (am_it md_pp n s).2)).2 63 k = _
      rw [md_p2_at (by decide)]
      show am_up (am_it md_pp n s).2 63 25 _ 63 k = _
      rw [am_up_k (by omega)]
      exact i2 k hk
    · show s.1 ≤ (am_it md_pp n s).1 + (md_p2 n (md_zz (am_it md_pp n s).2)).1; omega
    · show (am_it md_pp n s).1 + (md_p2 n (md_zz (am_it md_pp n s).2)).1 ≤ s.1 + ((n + 1 : Nat) : Int); omega
