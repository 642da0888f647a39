/-! the coupling: acts, the law, debts out of rows -/
/-- the trace alone differs -/
theorem cq_tr {σ τ σ' τ' : am_H} (hs : ∀ c k : Nat, c ≠ 48 ∧ (c ≠ 46 ∨ (k ≠ 3 ∧ k ≠ 4)) → σ' c k = σ c k) (ht : ∀ c k : Nat, c ≠ 85 ∧ (c ≠ 63 ∨ (k ≠ 42 ∧ k ≠ 43 ∧ k ≠ 44)) → τ' c k = τ c k) (h3 : τ' 63 42 = σ' 46 3 ∧ 0 ≤ σ' 46 3 ∧ σ' 46 3 ≤ 1000) (h4 : ∀ k : Nat, (k : Int) < σ' 46 3 → k < 24 → τ' 85 k = σ' 48 k) (h : RR σ τ) : RR σ' τ' := by
  obtain ⟨g1, g2, g3, g4, g5, g6, g7, g8, g9, g10⟩ := h
  refine ⟨RSet_of (fun c k hc => hs c k (by omega)) (fun c k hc => ht c k (by omega)) g1,
    RChg_of (fun c k hc => hs c k (by omega)) (fun c k hc => ht c k (by omega)) g2,
    RLaw_of (fun c k hc => hs c k (by omega)) (fun c k hc => ht c k (by omega)) g3,
    RDeb_of (fun c k hc => hs c k (by omega)) (fun c k hc => ht c k (by omega)) g4,
    RDia_of (fun c k hc => hs c k (by omega)) (fun c k hc => ht c k (by omega)) g5,
    RFlg_of (fun c k hc => hs c k (by omega)) g6,
    RImg_of (fun c k hc => hs c k (by omega)) (fun c k hc => ht c k (by omega)) g7,
    ⟨by rw [hs 46 2 (by omega), ht 63 39 (by omega)]; exact g8.1, fun k hk => ?_, h3, h4⟩,
    RShe_of (fun c k hc => hs c k (by omega)) (fun c k hc => ht c k (by omega)) g9,
    ⟨(hs 44 0 (by omega)).trans g10.1, (hs 45 0 (by omega)).trans g10.2⟩⟩
  rw [hs 46 2 (by omega)] at hk
  rw [hs 47 k (by omega), ht 84 k (by omega)]; exact g8.2.1 k hk
theorem bd_note_48 {s : am_H} {n : Int} {k : Nat} (hk : k < 24) : bd_note s n 48 k = if k = (s 46 3).toNat ∧ 0 ≤ s 46 3 then n else if k = 0 ∧ s 46 3 < 0 then n else s 48 k := by
  unfold bd_note
  rw [am_up_k (by omega)]
  by_cases e : s 46 3 < 24
  · rw [if_pos e, am_up_r]
    by_cases e2 : k = (s 46 3).toNat
    · rw [if_pos e2]
      by_cases e3 : 0 ≤ s 46 3
      · rw [if_pos ⟨e2, e3⟩]
      · rw [if_neg (fun q => e3 q.2), if_pos (by omega)]
    · rw [if_neg e2, if_neg (fun q => e2 q.1), if_neg (by omega)]
  · rw [if_neg e, if_neg (by omega), if_neg (by omega)]
theorem md_note_85 {s : am_H} {n : Int} {k : Nat} (hk : k < 24) : md_note s n 85 k = if k = (s 63 42).toNat ∧ 0 ≤ s 63 42 then n else if k = 0 ∧ s 63 42 < 0 then n else s 85 k := by
  unfold md_note
  rw [am_up_k (by omega)]
  by_cases e : s 63 42 < 24
  · rw [if_pos e, am_up_r]
    by_cases e2 : k = (s 63 42).toNat
    · rw [if_pos e2]
      by_cases e3 : 0 ≤ s 63 42
      · rw [if_pos ⟨e2, e3⟩]
      · rw [if_neg (fun q => e3 q.2), if_pos (by omega)]
    · rw [if_neg e2, if_neg (fun q => e2 q.1), if_neg (by omega)]
  · rw [if_neg e, if_neg (by omega), if_neg (by omega)]
theorem cq_bn : ∀ (l : List Int) (s t : am_H), t 63 42 = s 46 3 → 0 ≤ s 46 3 → (∀ k : Nat, (k : Int) < s 46 3 → k < 24 → t 85 k = s 48 k) → mn l t 63 42 = bn l s 46 3 ∧ ∀ k : Nat, (k : Int) < bn l s 46 3 → k < 24 → mn l t 85 k = bn l s 48 k
  | [], _, _, h1, _, h3 => ⟨h1, h3⟩
  | n :: l, s, t, h1, h2, h3 => by
    show mn l (md_note t n) 63 42 = bn l (bd_note s n) 46 3 ∧ ∀ k : Nat, (k : Int) < bn l (bd_note s n) 46 3 → k < 24 → mn l (md_note t n) 85 k = bn l (bd_note s n) 48 k
    refine cq_bn l _ _ (by rw [md_note_3, bd_note_3, h1]) (by rw [bd_note_3]; omega) (fun k hk hk2 => ?_)
    rw [bd_note_3] at hk
    rw [md_note_85 hk2, bd_note_48 hk2, h1]
    by_cases e : k = (s 46 3).toNat ∧ 0 ≤ s 46 3
    · rw [if_pos e, if_pos e]
    · rw [if_neg e, if_neg e, if_neg (by omega), if_neg (by omega)]
      exact h3 k (by omega) hk2
theorem bd_tr_len {K a : Int} : (bd_tr K a).length ≤ 100 := by
  have h : ∀ (c : Prop) [Decidable c] (x y : List Int), x.length ≤ 100 → y.length ≤ 100 → (if c then x else y).length ≤ 100 := fun c _ x y hx hy => by
    by_cases e : c
    · rw [if_pos e]; exact hx
    · rw [if_neg e]; exact hy
  unfold bd_tr
  repeat' (first | refine h _ _ _ ?_ ?_ | decide)
theorem cq_act {σ τ : am_H} {l : List Int} {b K b' : Int} (h : RR σ τ) (hl : l.length ≤ 100) : RR (bn l (am_up (am_up σ 46 3 0) 46 4 b)) (mn l (am_up (am_up (am_up τ 63 42 0) 63 43 K) 63 44 b')) := by
  have s3 : am_up (am_up σ 46 3 0) 46 4 b 46 3 = 0 := by rw [am_up_k (by omega), am_up_eq]
  have t3 : am_up (am_up (am_up τ 63 42 0) 63 43 K) 63 44 b' 63 42 = 0 := by rw [am_up_k (by omega), am_up_k (by omega), am_up_eq]
  have q := cq_bn l (am_up (am_up σ 46 3 0) 46 4 b) (am_up (am_up (am_up τ 63 42 0) 63 43 K) 63 44 b') (by rw [s3, t3]) (by rw [s3]; decide) (fun k hk => by rw [s3] at hk; omega)
  refine cq_tr (fun c k hc => ?_) (fun c k hc => ?_) ⟨q.1, ?_, ?_⟩ q.2 h
  · rw [bn_at l (by omega) (by omega), am_up_k (by omega), am_up_k (by omega)]
  · rw [mn_at l (by omega) (by omega), am_up_k (by omega), am_up_k (by omega), am_up_k (by omega)]
  · rw [bn_3, s3]; omega
  · rw [bn_3, s3]; omega
theorem cq_act0 {σ τ : am_H} (h : RR σ τ) : RR (am_up σ 46 3 0) (am_up τ 63 42 0) :=
  cq_tr (fun c k hc => am_up_k (by omega)) (fun c k hc => am_up_k (by omega)) ⟨by rw [am_up_eq, am_up_eq], by rw [am_up_eq]; decide, by rw [am_up_eq]; decide⟩ (fun k hk => by rw [am_up_eq] at hk; omega) h
theorem cq_act1 {σ τ : am_H} {K b : Int} (h : RR σ τ) : RR (am_up σ 46 3 0) (am_up (am_up (am_up τ 63 42 0) 63 43 K) 63 44 b) :=
  cq_tr (fun c k hc => am_up_k (by omega)) (fun c k hc => by rw [am_up_k (by omega), am_up_k (by omega), am_up_k (by omega)]) ⟨by rw [am_up_k (by omega), am_up_k (by omega), am_up_eq, am_up_eq], by rw [am_up_eq]; decide, by rw [am_up_eq]; decide⟩ (fun k hk => by rw [am_up_eq] at hk; omega) h
theorem cq_law {σ τ σ' τ' : am_H} {r1 r2 : Int} (h : RR σ τ)
    (h1 : ((∀ c k : Nat, c ≠ 9 → c ≠ 11 → c ≠ 12 → c ≠ 13 → σ' c k = σ c k) ∧ σ' 9 6 = 0) ∧ ((∃ f : Nat, r1 = -100 - (f : Int) ∧ lx_bad (σ 10) (σ 9 6).toNat f ∧ σ' 9 7 = σ 9 7 ∧ ∀ k, σ' 11 k = σ 11 k) ∨ (r1 = 1 ∧ ∃ rc, lx_cmp (σ 10) (σ 9 6).toNat = some rc ∧ σ' 9 7 = (rc.length : Int) ∧ rc = rcl σ' 11 rc.length ∧ rc.length ≤ 121)))
    (h2 : (∀ c k : Nat, c ≠ 70 → (c ≠ 63 ∨ k < 11 ∨ k = 12 ∨ 18 < k) → τ' c k = τ c k) ∧ τ' 63 11 = 0 ∧ ((∃ f : Nat, r2 = -100 - (f : Int) ∧ lx_bad (τ 69) (τ 63 11).toNat f ∧ τ' 63 13 = τ 63 13 ∧ ∀ k, τ' 70 k = τ 70 k) ∨ (r2 = 1 ∧ (∃ rc, lx_cmp (τ 69) (τ 63 11).toNat = some rc ∧ lx_tot rc) ∧ τ' 63 13 = τ 63 11 ∧ ∀ k : Nat, (k : Int) < τ 63 11 → τ' 70 k = τ 69 k))) : r2 = r1 ∧ RR σ' τ' := by
  have n := cq_n h
  obtain ⟨⟨hs, e6⟩, h1⟩ := h1
  obtain ⟨ht, t11, h2⟩ := h2
  have h' := h
  obtain ⟨g1, g2, g3, g4, g5, g6, g7, g8, g9, g10⟩ := h
  obtain ⟨⟨k1, k2⟩, k3, k4, k5⟩ := g3
  have htp : ∀ j, j < (σ 9 6).toNat → τ 69 j = σ 10 j := fun j hj => k2 j (by omega)
  rw [n.1.2.2.2.2.1] at h2
  have hcp : ∀ rc : List Int, lx_cmp (τ 69) (σ 9 6).toNat = some rc → lx_cmp (σ 10) (σ 9 6).toNat = some rc := fun rc q => by
    rw [← lx_cmp_congr htp]; exact q
  have key : RLaw σ' τ' → RR σ' τ' := fun hL => by
    refine ⟨RSet_of (fun c k hc => hs c k (by omega) (by omega) (by omega) (by omega)) (fun c k hc => ht c k (by omega) (by omega)) g1,
      RChg_of (fun c k hc => hs c k (by omega) (by omega) (by omega) (by omega)) (fun c k hc => ht c k (by omega) (by omega)) g2,
      hL,
      RDeb_of (fun c k hc => hs c k (by omega) (by omega) (by omega) (by omega)) (fun c k hc => ht c k (by omega) (by omega)) g4,
      RDia_of (fun c k hc => hs c k (by omega) (by omega) (by omega) (by omega)) (fun c k hc => ht c k (by omega) (by omega)) g5,
      RFlg_of (fun c k hc => hs c k (by omega) (by omega) (by omega) (by omega)) g6,
      RImg_of (fun c k hc => hs c k (by omega) (by omega) (by omega) (by omega)) (fun c k hc => ht c k (by omega) (by omega)) g7,
      RBod_of (fun c k hc => hs c k (by omega) (by omega) (by omega) (by omega)) (fun c k hc => ht c k (by omega) (by omega)) g8,
      RShe_of (fun c k hc => hs c k (by omega) (by omega) (by omega) (by omega)) (fun c k hc => ht c k (by omega) (by omega)) g9,
      ⟨(hs 44 0 (by omega) (by omega) (by omega) (by omega)).trans g10.1, (hs 45 0 (by omega) (by omega) (by omega) (by omega)).trans g10.2⟩⟩
  have tape : (τ' 63 11 = σ' 9 6 ∧ 0 ≤ σ' 9 6 ∧ σ' 9 6 ≤ 120) ∧ ∀ k : Nat, (k : Int) < σ' 9 6 → τ' 69 k = σ' 10 k := ⟨⟨by rw [t11, e6], by omega, by omega⟩, fun k hk => by omega⟩
  rcases h1 with ⟨f, p1, b1, c7, c11⟩ | ⟨p1, rc, b1, c7, c11, cl⟩
  · rcases h2 with ⟨f2, p2, b2, d13, d70⟩ | ⟨p2, ⟨rc2, b2, -⟩, -, -⟩
    · have ef : f2 = f := lx_bad_un (lx_bad_congr htp b2) b1
      refine ⟨by rw [p1, p2, ef], key ⟨tape, CLaw_of c7 c11 k3, MLaw_of d13 d70 k4, ?_⟩⟩
      have hr : rcl σ' 11 (σ 9 7).toNat = rcl σ 11 (σ 9 7).toNat := rcl_congr _ (fun k _ => c11 k)
      have hr2 : lx_cmp (τ' 70) (τ 63 13).toNat = lx_cmp (τ 70) (τ 63 13).toNat := lx_cmp_congr (fun k _ => d70 k)
      unfold md_lw c_lw at *
      rw [c7, hr, d13, hr2]; exact k5
    · exact (lx_bad_cmp b1 (hcp _ b2)).elim
  · rcases h2 with ⟨f2, p2, b2, d13, d70⟩ | ⟨p2, ⟨rc2, b2, btot⟩, d13, d70⟩
    · exact (lx_bad_cmp (lx_bad_congr htp b2) b1).elim
    · have e2 : rc2 = rc := by
        have q := hcp _ b2
        rw [b1] at q
        exact (Option.some.inj q).symm
      rw [e2] at btot b2
      have hh := lx_cmp_head b1
      have hpos : 0 < rc.length := by
        cases rc with
        | nil => exact absurd hh (by decide)
        | cons a l => exact Nat.succ_pos _
      have hm : lx_cmp (τ' 70) (σ 9 6).toNat = some rc := by
        rw [← b2]; exact lx_cmp_congr (fun j hj => d70 j (by omega))
      have hrc : rcl σ' 11 (σ' 9 7).toNat = rc := by
        rw [c7, Int.toNat_natCast]; exact c11.symm
      refine ⟨by rw [p1, p2], key ⟨tape, Or.inr ⟨by omega, by omega, by rw [hrc]; exact hh, by rw [hrc]; exact btot⟩, Or.inr ⟨by omega, by omega, rc, by rw [d13]; exact hm, btot⟩, ?_⟩⟩
      unfold md_lw c_lw
      rw [hrc, if_pos (show 0 < σ' 9 7 by omega), if_neg (show ¬ τ' 63 13 < 0 by omega), d13]; exact hm
