/-! the coupling: go -/
theorem c_pp_at {p : Nat} {s : go_S} {c k : Nat} (h : c ≠ 19 ∧ c ≠ 21 ∧ c ≠ 26 ∧ c ≠ 27 ∧ c ≠ 28) : (c_pp p s).2.2 c k = s.2.2 c k := by
  show (if c_g1 s p then c_wk s.2.2 p (c_ch s.2.2 p) else s.2.2) c k = s.2.2 c k
  by_cases e : c_g1 s p
  · rw [if_pos e]; exact c_wk_at h
  · rw [if_neg e]
theorem c_it_at {s : go_S} {c k : Nat} (h : c ≠ 19 ∧ c ≠ 21 ∧ c ≠ 26 ∧ c ≠ 27 ∧ c ≠ 28) : ∀ n : Nat, (am_it c_pp n s).2.2 c k = s.2.2 c k
  | 0 => rfl
  | n + 1 => (c_pp_at h).trans (c_it_at h n)
theorem c_go_at {z : Int} {σ : am_H} {c k : Nat} (h : 63 ≤ c) : ∀ n : Nat, (c_go n z σ).2.2 c k = σ c k
  | 0 => rfl
  | n + 1 => by
    show dia_end (am_it c_pp ((c_go n z σ).2.2 1 2).toNat (c_go n z σ)).2.2 c k = σ c k
    rw [dia_end_at (by omega) (by omega), c_it_at (by omega)]
    exact c_go_at h n
theorem md_pw_at {σ : am_H} {p a : Int} {kk c k : Nat} (h : c ≠ 68 ∧ c ≠ 73 ∧ c ≠ 74 ∧ c ≠ 75) : md_pw σ p kk a c k = σ c k := by
  unfold md_pw
  rw [md_mk_at (by omega), md_off_at (by omega), md_got_at (by omega), md_mk_at (by omega)]
theorem md_pp_at {p : Nat} {s : Int × am_H} {c k : Nat} (h : c < 63) : (md_pp p s).2 c k = s.2 c k := by
  show (md_p2 p (md_zz s.2)).2 c k = s.2 c k
  unfold md_p2
  by_cases e : md_a (md_zz s.2) p < 0
  · rw [if_pos e]
    exact (md_mk_at (by omega)).trans (am_up_k (by omega))
  · rw [if_neg e]
    exact (md_pw_at (by omega)).trans (am_up_k (by omega))
theorem md_it_at {s : Int × am_H} {c k : Nat} (h : c < 63) : ∀ n : Nat, (am_it md_pp n s).2 c k = s.2 c k
  | 0 => rfl
  | n + 1 => (md_pp_at h).trans (md_it_at h n)
theorem md_end_at {σ : am_H} {c k : Nat} (h : c ≠ 72 ∧ c ≠ 74 ∧ c ≠ 75 ∧ (c ≠ 63 ∨ k ≠ 9)) : md_end σ c k = σ c k := by
  unfold md_end; rw [am_up_k (by omega), md_dn_at (by omega), md_rest_at (by omega)]
theorem md_go_at {z : Int} {σ : am_H} {c k : Nat} (h : c < 63) : ∀ n : Nat, (md_go n z σ).2 c k = σ c k
  | 0 => am_up_k (by omega)
  | n + 1 => by
    show md_end (am_it md_pp ((md_go n z σ).2 63 6).toNat (0, (md_go n z σ).2)).2 c k = σ c k
    rw [md_end_at (by omega), md_it_at h]
    exact md_go_at h n
theorem cq_pp {P : Nat} {s : go_S} {t : Int × am_H} {w : Int} (h : RM P s.2.2 t.2) (hz : t.2 63 25 = s.1) (hw : s.2.1 = w + t.1) (hP : (P : Int) < s.2.2 1 2) (hn : s.2.2 22 7 ≤ 47) : RM (P + 1) (c_pp P s).2.2 (md_pp P t).2 ∧ (md_pp P t).2 63 25 = (c_pp P s).1 ∧ (c_pp P s).2.1 = w + (md_pp P t).1 := by
  obtain ⟨z, w1, σ⟩ := s
  obtain ⟨w2, τ⟩ := t
  have hR : RM P σ (md_zz τ) := RM_z h
  have z5 : md_zz τ 63 25 = go_z z := by
    show am_up τ 63 25 (go_z (τ 63 25)) 63 25 = go_z z
    rw [am_up_eq, show τ 63 25 = z from hz]
  show RM (P + 1) (if c_g1 (z, w1, σ) P then c_wk σ P (c_ch σ P) else σ) (md_p2 P (md_zz τ)).2 ∧ (md_p2 P (md_zz τ)).2 63 25 = go_z z ∧ (if c_g1 (z, w1, σ) P then w1 + 1 else w1) = w + (w2 + (md_p2 P (md_zz τ)).1)
  have hw : w1 = w + w2 := hw
  have hP : (P : Int) < σ 1 2 := hP
  have hn : σ 22 7 ≤ 47 := hn
  clear h hz
  generalize md_zz τ = T at *
  have hg : RSet σ T ∧ RChg σ T ∧ RLaw σ T ∧ RDeb σ T 16 7 68 ∧ RDiM P σ T ∧ RFlg σ ∧ RImg σ T ∧ RBod σ T ∧ RShe σ T ∧ RWip σ := hR
  obtain ⟨g1, g2, g3, g4, g5, g6, g7, g8, g9, g10⟩ := hg
  have p8 := g1.1.2
  have hsel : md_sel T P (σ 22 7) (σ 22 6).toNat = c_sel σ P (σ 22 7) (σ 22 6).toNat := cq_sel g1 g3 g4 g5.2.2.1 _ _
  have hma : md_a T P = if go_ill (σ 22 7) (σ 1 4) (go_z z) then -1 else (c_sel σ P (σ 22 7) (σ 22 6).toNat).1 := by
    unfold md_a
    rw [g5.2.1.1, g1.2.2.2.2.1, z5, g5.1.1, hsel]
  have hch : c_ch σ P = c_of1 σ (c_sel σ P (σ 22 7) (σ 22 6).toNat).1 := rfl
  have bd := as_sel_bd (c_P σ P (σ 22 7)) (c_V σ (σ 22 7)) (σ 22 6).toNat
  have hb1 : (c_sel σ P (σ 22 7) (σ 22 6).toNat).1 < ((σ 22 6).toNat : Int) := bd.2.1
  have hb2 : 0 ≤ (c_sel σ P (σ 22 7) (σ 22 6).toNat).1 → c_P σ P (σ 22 7) (c_sel σ P (σ 22 7) (σ 22 6).toNat).1.toNat = true := fun q => (bd.2.2.1 q).1
  clear bd
  have key : (¬ c_g1 (z, w1, σ) P ∧ md_a T P < 0) ∨ (c_g1 (z, w1, σ) P ∧ ∃ A : Nat, md_a T P = (A : Int) ∧ (A : Int) < σ 22 6 ∧ c_ch σ P = σ 23 A ∧ 0 < σ 19 (σ 23 A).toNat) := by
    show (¬ (¬ go_ill (σ 22 7) (σ 1 4) (go_z z) ∧ 0 ≤ c_ch σ P) ∧ md_a T P < 0) ∨ ((¬ go_ill (σ 22 7) (σ 1 4) (go_z z) ∧ 0 ≤ c_ch σ P) ∧ ∃ A : Nat, md_a T P = (A : Int) ∧ (A : Int) < σ 22 6 ∧ c_ch σ P = σ 23 A ∧ 0 < σ 19 (σ 23 A).toNat)
    rw [hma, hch]
    generalize (c_sel σ P (σ 22 7) (σ 22 6).toNat).1 = q at *
    by_cases ei : go_ill (σ 22 7) (σ 1 4) (go_z z)
    · rw [if_pos ei]; exact Or.inl ⟨fun k => k.1 ei, by decide⟩
    · rw [if_neg ei]
      unfold c_of1
      by_cases eq : q < 0
      · rw [if_pos eq]; exact Or.inl ⟨fun k => absurd k.2 (by decide), eq⟩
      · rw [if_neg eq]
        have hp := hb2 (by omega)
        unfold c_P at hp
        have hp := of_decide_eq_true hp
        have a := g5.2.2.1 q.toNat (by omega)
        exact Or.inr ⟨⟨ei, a.2.1.1⟩, q.toNat, by omega, by omega, rfl, hp.2.2.1.2⟩
  unfold md_p2
  rcases key with ⟨k1, k2⟩ | ⟨k1, A, k2, k3, k4, k5⟩
  · rw [if_neg k1, if_neg k1, if_pos k2]
    refine ⟨RM_no hR (by omega) hn, ?_, ?_⟩
    · have e : md_mk T (8 * T 63 9 + (P : Int)).toNat (-2) (-2) 63 25 = T 63 25 := md_mk_at (by decide)
      exact e.trans z5
    · show w1 = w + (w2 + 0)
      omega
  · rw [if_pos k1, if_pos k1, if_neg (by omega), k2, k4]
    refine ⟨RM_yes hR hP hn k3 k5, ?_, ?_⟩
    · have e : md_pw T P (8 * T 63 9 + (P : Int)).toNat A 63 25 = T 63 25 := md_pw_at (by decide)
      exact e.trans z5
    · show w1 + 1 = w + (w2 + 1)
      omega
theorem cq_it {s : go_S} {τ : am_H} (h : RR s.2.2 τ) (hz : τ 63 25 = s.1) (hn : s.2.2 22 7 ≤ 47) : ∀ P : Nat, (P : Int) ≤ s.2.2 1 2 → RM P (am_it c_pp P s).2.2 (am_it md_pp P (0, τ)).2 ∧ (am_it md_pp P (0, τ)).2 63 25 = (am_it c_pp P s).1 ∧ (am_it c_pp P s).2.1 = s.2.1 + (am_it md_pp P (0, τ)).1
  | 0, _ => ⟨RM_0.mpr h, hz, by show s.2.1 = s.2.1 + 0; omega⟩
  | P + 1, hP => by
    have ih := cq_it h hz hn P (by omega)
    exact cq_pp ih.1 ih.2.1 ih.2.2 (by rw [c_it_at (by decide)]; omega) (by rw [c_it_at (by decide)]; exact hn)
theorem cq_day {s : go_S} {τ : am_H} (h : RR s.2.2 τ) (hz : τ 63 25 = s.1) (hn : s.2.2 22 7 ≤ 47) : RR (c_day s).2.2 (md_day τ).2 ∧ (md_day τ).2 63 25 = (c_day s).1 ∧ (c_day s).2.1 = s.2.1 + (md_day τ).1 ∧ (c_day s).2.2 22 7 = s.2.2 22 7 + 1 := by
  have n := cq_n h
  have q := cq_it h hz hn (s.2.2 1 2).toNat (by omega)
  show RR (dia_end (am_it c_pp (s.2.2 1 2).toNat s).2.2) (md_end (am_it md_pp (τ 63 6).toNat (0, τ)).2) ∧ md_end (am_it md_pp (τ 63 6).toNat (0, τ)).2 63 25 = (am_it c_pp (s.2.2 1 2).toNat s).1 ∧ (am_it c_pp (s.2.2 1 2).toNat s).2.1 = s.2.1 + (am_it md_pp (τ 63 6).toNat (0, τ)).1 ∧ dia_end (am_it c_pp (s.2.2 1 2).toNat s).2.2 22 7 = s.2.2 22 7 + 1
  rw [n.1.1]
  refine ⟨RM_end q.1 (by rw [c_it_at (by decide)]; omega) (by rw [c_it_at (by decide)]; exact hn), ?_, q.2.2, ?_⟩
  · rw [md_end_at (by decide)]; exact q.2.1
  · rw [dia_end_7, c_it_at (by decide)]
theorem cq_go {σ τ : am_H} (z : Int) (h : RR σ τ) : ∀ n : Nat, σ 22 7 + (n : Int) ≤ 48 → RR (c_go n z σ).2.2 (md_go n z τ).2 ∧ (md_go n z τ).2 63 25 = (c_go n z σ).1 ∧ (c_go n z σ).2.1 = (md_go n z τ).1 ∧ (c_go n z σ).2.2 22 7 = σ 22 7 + (n : Int)
  | 0, _ => ⟨RR_of (fun _ _ _ _ _ _ _ => rfl) (fun c k _ _ _ _ _ _ h63 => am_up_k (by omega)) h, (by show am_up τ 63 25 z 63 25 = z; exact am_up_eq), rfl, by show σ 22 7 = σ 22 7 + 0; omega⟩
  | n + 1, hn => by
    have ih := cq_go z h n (by omega)
    have q := cq_day ih.1 ih.2.1 (by rw [ih.2.2.2]; omega)
    refine ⟨q.1, q.2.1, ?_, ?_⟩
    · show (c_day (c_go n z σ)).2.1 = (md_go n z τ).1 + (md_day (md_go n z τ).2).1
      rw [q.2.2.1, ih.2.2.1]
    · show (c_day (c_go n z σ)).2.2 22 7 = _
      rw [q.2.2.2, ih.2.2.2]; omega
