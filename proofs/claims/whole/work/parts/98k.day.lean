/-! the coupling: days go -/
/-- the diary amid a day: P people have had it -/
def RDiM (P : Nat) (σ τ : am_H) : Prop := (τ 63 20 = σ 22 6 ∧ 0 ≤ σ 22 6 ∧ σ 22 6 ≤ 30) ∧ (τ 63 9 = σ 22 7 ∧ 0 ≤ σ 22 7 ∧ σ 22 7 ≤ 48) ∧ (∀ k : Nat, (k : Int) < σ 22 6 → (τ 72 (3 * k) = σ 23 k ∧ τ 72 (3 * k + 1) = σ 24 k ∧ τ 72 (3 * k + 2) = σ 25 k) ∧ (0 ≤ σ 23 k ∧ σ 23 k < σ 16 5) ∧ 0 ≤ σ 24 k ∧ σ 24 k ≤ 47) ∧
  (∀ p : Nat, p < 8 → τ 73 p = σ 28 p) ∧ (∀ k : Nat, (k : Int) < 8 * σ 22 7 + P → τ 74 k = σ 26 k ∧ τ 75 k = σ 27 k) ∧ (∀ k : Nat, 8 * σ 22 7 + P ≤ (k : Int) → k < 384 → σ 26 k = -2 ∧ σ 27 k = -2)
def RM (P : Nat) (σ τ : am_H) : Prop := RSet σ τ ∧ RChg σ τ ∧ RLaw σ τ ∧ RDeb σ τ 16 7 68 ∧ RDiM P σ τ ∧ RFlg σ ∧ RImg σ τ ∧ RBod σ τ ∧ RShe σ τ ∧ RWip σ
theorem RM_0 {σ τ : am_H} : RM 0 σ τ ↔ RR σ τ := by
  have e : RDiM 0 σ τ ↔ RDia σ τ 22 16 20 9 72 73 74 75 := by
    unfold RDiM RDia
    rw [show 8 * σ 22 7 + ((0 : Nat) : Int) = 8 * σ 22 7 by omega]
  unfold RM RR
  rw [e]
theorem RDiM_of {σ τ σ' τ' : am_H} {P : Nat} (hs : ∀ c k : Nat, (22 < c ∧ c ≤ 28) ∨ (c = 22 ∧ (k = 6 ∨ k = 7)) ∨ (c = 16 ∧ k = 5) → σ' c k = σ c k) (ht : ∀ c k : Nat, c = 72 ∨ c = 73 ∨ c = 74 ∨ c = 75 ∨ (c = 63 ∧ (k = 20 ∨ k = 9)) → τ' c k = τ c k) (h : RDiM P σ τ) : RDiM P σ' τ' := by
  unfold RDiM
  rw [hs 22 6 (by omega), hs 22 7 (by omega), hs 16 5 (by omega), ht 63 20 (by omega), ht 63 9 (by omega)]
  obtain ⟨h1, h2, h3, h4, h5, h6⟩ := h
  refine ⟨h1, h2, fun k hk => ?_, fun p hp => ?_, fun k hk => ?_, fun k hk hk2 => ?_⟩
  · rw [hs 23 k (by omega), hs 24 k (by omega), hs 25 k (by omega), ht 72 _ (by omega), ht 72 _ (by omega), ht 72 _ (by omega)]; exact h3 k hk
  · rw [hs 28 p (by omega), ht 73 p (by omega)]; exact h4 p hp
  · rw [hs 26 k (by omega), hs 27 k (by omega), ht 74 k (by omega), ht 75 k (by omega)]; exact h5 k hk
  · rw [hs 26 k (by omega), hs 27 k (by omega)]; exact h6 k hk hk2
/-- the draw's cell may change -/
theorem RM_z {P : Nat} {σ τ : am_H} {z : Int} (h : RM P σ τ) : RM P σ (am_up τ 63 25 z) := by
  have ht : ∀ c k : Nat, (c ≠ 63 ∨ k ≠ 25) → am_up τ 63 25 z c k = τ c k := fun c k hc => am_up_k hc
  generalize am_up τ 63 25 z = τ' at *
  have hs : ∀ c k : Nat, c < 63 → σ c k = σ c k := fun _ _ _ => rfl
  obtain ⟨g1, g2, g3, g4, g5, g6, g7, g8, g9, g10⟩ := h
  refine ⟨RSet_of (fun c k hc => hs c k (by omega)) (fun c k hc => ht c k (by omega)) g1,
    RChg_of (fun c k hc => hs c k (by omega)) (fun c k hc => ht c k (by omega)) g2,
    RLaw_of (fun c k hc => hs c k (by omega)) (fun c k hc => ht c k (by omega)) g3,
    RDeb_of (fun c k hc => hs c k (by omega)) (fun c k hc => ht c k (by omega)) g4,
    RDiM_of (fun c k hc => hs c k (by omega)) (fun c k hc => ht c k (by omega)) g5,
    RFlg_of (fun c k hc => hs c k (by omega)) g6,
    RImg_of (fun c k hc => hs c k (by omega)) (fun c k hc => ht c k (by omega)) g7,
    RBod_of (fun c k hc => hs c k (by omega)) (fun c k hc => ht c k (by omega)) g8,
    RShe_of (fun c k hc => hs c k (by omega)) (fun c k hc => ht c k (by omega)) g9,
    ⟨(hs 44 0 (by omega)).trans g10.1, (hs 45 0 (by omega)).trans g10.2⟩⟩
/-- nobody has him -/
theorem RM_no {P : Nat} {σ τ : am_H} (h : RM P σ τ) (hP : P < 8) (hn : σ 22 7 ≤ 47) : RM (P + 1) σ (md_mk τ (8 * τ 63 9 + (P : Int)).toNat (-2) (-2)) := by
  obtain ⟨K, hK⟩ : ∃ K : Nat, (8 * τ 63 9 + (P : Int)).toNat = K := ⟨_, rfl⟩
  rw [hK]
  have ht : ∀ c k : Nat, c ≠ 74 ∧ c ≠ 75 → md_mk τ K (-2) (-2) c k = τ c k := fun c k hc => md_mk_at hc
  have t74 : ∀ k : Nat, md_mk τ K (-2) (-2) 74 k = if k = K then -2 else τ 74 k := fun k => by unfold md_mk; rw [am_up_k (by omega), am_up_r]
  have t75 : ∀ k : Nat, md_mk τ K (-2) (-2) 75 k = if k = K then -2 else τ 75 k := fun k => by unfold md_mk; rw [am_up_r, am_up_k (by omega)]
  generalize md_mk τ K (-2) (-2) = τ' at *
  have hs : ∀ c k : Nat, c < 63 → σ c k = σ c k := fun _ _ _ => rfl
  obtain ⟨g1, g2, g3, g4, g5, g6, g7, g8, g9, g10⟩ := h
  refine ⟨RSet_of (fun c k hc => hs c k (by omega)) (fun c k hc => ht c k (by omega)) g1,
    RChg_of (fun c k hc => hs c k (by omega)) (fun c k hc => ht c k (by omega)) g2,
    RLaw_of (fun c k hc => hs c k (by omega)) (fun c k hc => ht c k (by omega)) g3,
    RDeb_of (fun c k hc => hs c k (by omega)) (fun c k hc => ht c k (by omega)) g4,
    ?_,
    RFlg_of (fun c k hc => hs c k (by omega)) g6,
    RImg_of (fun c k hc => hs c k (by omega)) (fun c k hc => ht c k (by omega)) g7,
    RBod_of (fun c k hc => hs c k (by omega)) (fun c k hc => ht c k (by omega)) g8,
    RShe_of (fun c k hc => hs c k (by omega)) (fun c k hc => ht c k (by omega)) g9,
    ⟨(hs 44 0 (by omega)).trans g10.1, (hs 45 0 (by omega)).trans g10.2⟩⟩
  obtain ⟨h1, h2, h3, h4, h5, h6⟩ := g5
  unfold RDiM
  rw [ht 63 20 (by omega), ht 63 9 (by omega)]
  refine ⟨h1, h2, fun k hk => ?_, fun p hp => ?_, fun k hk => ?_, fun k hk hk2 => h6 k (by omega) hk2⟩
  · rw [ht 72 _ (by omega), ht 72 _ (by omega), ht 72 _ (by omega)]; exact h3 k hk
  · rw [ht 73 p (by omega)]; exact h4 p hp
  · rw [t74, t75]
    by_cases e : k = K
    · rw [if_pos e, if_pos e]
      have q := h6 k (by omega) (by omega)
      exact ⟨q.1.symm, q.2.symm⟩
    · rw [if_neg e, if_neg e]; exact h5 k (by omega)
theorem cq_nick {σ τ : am_H} {k : Nat} {v : Int} (h : RDeb σ τ 16 7 68) (hk : (k : Int) < σ 16 5) (hv : v = 0 ∨ v = 1) : RDeb (am_up σ 21 k v) (am_up τ 68 (5 * k + 4) v) 16 7 68 := by
  have hd := cp_deb h
  have s : ∀ c j : Nat, c ≠ 21 → am_up σ 21 k v c j = σ c j := fun c j h1 => am_up_k (by omega)
  have s1 : ∀ j : Nat, am_up σ 21 k v 21 j = if j = k then v else σ 21 j := fun j => am_up_r
  have t : ∀ j : Nat, am_up τ 68 (5 * k + 4) v 68 j = if j = 5 * k + 4 then v else τ 68 j := fun j => am_up_r
  have t7 : am_up τ 68 (5 * k + 4) v 63 7 = τ 63 7 := am_up_k (by omega)
  generalize am_up σ 21 k v = σ' at *
  generalize am_up τ 68 (5 * k + 4) v = τ' at *
  refine ⟨by show τ' 63 7 = σ' 16 5 ∧ 0 ≤ σ' 16 5 ∧ σ' 16 5 ≤ 20; rw [t7, s 16 5 (by omega)]; exact hd.1, fun n hn => ?_⟩
  show (τ' 68 (5 * n) = σ' 17 n ∧ τ' 68 (5 * n + 1) = σ' 18 n ∧ τ' 68 (5 * n + 2) = σ' 19 n ∧ τ' 68 (5 * n + 3) = σ' 20 n ∧ τ' 68 (5 * n + 4) = σ' 21 n) ∧
    ((0 ≤ σ' 17 n ∧ σ' 17 n < σ' 1 2) ∧ (0 ≤ σ' 18 n ∧ σ' 18 n < σ' 1 2) ∧ σ' 17 n ≠ σ' 18 n ∧ (0 ≤ σ' 19 n ∧ σ' 19 n ≤ 9) ∧ (0 ≤ σ' 20 n ∧ σ' 20 n ≤ 12) ∧ (σ' 21 n = 0 ∨ σ' 21 n = 1))
  have hn : (n : Int) < σ 16 5 := by rw [← s 16 5 (by omega)]; exact hn
  have q := hd.2 n hn
  rw [s1, s 17 n (by omega), s 18 n (by omega), s 19 n (by omega), s 20 n (by omega), s 1 2 (by omega), t, t, t, t, t]
  rw [if_neg (show ¬ 5 * n = 5 * k + 4 by omega), if_neg (show ¬ 5 * n + 1 = 5 * k + 4 by omega), if_neg (show ¬ 5 * n + 2 = 5 * k + 4 by omega), if_neg (show ¬ 5 * n + 3 = 5 * k + 4 by omega)]
  by_cases e : n = k
  · rw [if_pos e, if_pos (by omega)]
    exact ⟨⟨q.1.1, q.1.2.1, q.1.2.2.1, q.1.2.2.2.1, rfl⟩, q.2.1, q.2.2.1, q.2.2.2.1, q.2.2.2.2.1, q.2.2.2.2.2.1, hv⟩
  · rw [if_neg e, if_neg (by omega)]
    exact q
theorem cq_work {σ τ : am_H} {k : Nat} {w day : Int} (h : RDeb σ τ 16 7 68) (hk : (k : Int) < σ 16 5) (h0 : 0 < σ 19 k) (hw : w ≠ 0 ↔ md_wh τ k day) : RDeb (led_work σ k w) (md_off τ k day) 16 7 68 := by
  have q := (cp_deb h).2 k hk
  unfold led_work md_off
  by_cases e : w ≠ 0
  · rw [if_pos e, if_pos (hw.mp e)]; exact cp_less h hk ⟨by omega, by omega⟩
  · rw [if_neg e, if_neg (fun z => e (hw.mpr z)), q.1.2.2.2.2]
    by_cases e2 : σ 21 k = 0
    · rw [if_pos e2, if_neg (by omega)]; exact cq_nick h hk (Or.inr rfl)
    · rw [if_neg e2, if_pos (by have := q.2.2.2.2.2.2; omega)]
      refine cp_less (cq_nick h hk (Or.inl rfl)) (by rw [am_up_k (by omega)]; exact hk) ?_
      rw [am_up_k (by omega)]; omega
/-- he works a debt off -/
theorem RM_yes {P A : Nat} {σ τ : am_H} (h : RM P σ τ) (hP : (P : Int) < σ 1 2) (hn : σ 22 7 ≤ 47) (hA : (A : Int) < σ 22 6) (h0 : 0 < σ 19 (σ 23 A).toNat) : RM (P + 1) (c_wk σ P (σ 23 A)) (md_pw τ P (8 * τ 63 9 + (P : Int)).toNat A) := by
  obtain ⟨K, hK⟩ : ∃ K : Nat, (8 * τ 63 9 + (P : Int)).toNat = K := ⟨_, rfl⟩
  rw [hK]
  have h' := h
  obtain ⟨g1, g2, g3, g4, g5, g6, g7, g8, g9, g10⟩ := h
  obtain ⟨h1, h2, h3, h4, h5, h6⟩ := g5
  have ha := h3 A hA
  have p8 := g1.1.2
  obtain ⟨D, hD⟩ : ∃ D : Nat, (σ 23 A).toNat = D := ⟨_, rfl⟩
  rw [hD] at h0
  have hDc : (D : Int) < σ 16 5 := by omega
  have q := (cp_deb g4).2 D hDc
  have n2 : md_nx τ (A : Int) = σ 23 A := by unfold md_nx; rw [Int.toNat_natCast]; exact ha.1.1
  have hwv : md_wv τ P (σ 18 D) (σ 22 7) = c_wv σ P (σ 18 D) (σ 22 7) := cp_wv g1 g3 ⟨by omega, hP⟩ ⟨by omega, hn⟩
  obtain ⟨wv, ew⟩ : ∃ wv, c_wv σ P (σ 18 D) (σ 22 7) = wv := ⟨_, rfl⟩
  rw [ew] at hwv
  obtain ⟨Q, hQ⟩ : ∃ Q : Nat, (σ 18 D).toNat = Q := ⟨_, rfl⟩
  have hKn : (σ 22 7 * 8 + (P : Int)).toNat = K := by omega
  have eS : c_wk σ P (σ 23 A) = led_work (dia_lead σ K Q (σ 18 D) (σ 23 A) wv) D (c_whole σ (σ 23 A)) := by
    unfold c_wk; rw [hD, ew, hQ, hKn]
  have hm : md_wv (md_mk τ K (-2) (-2)) P (σ 18 D) (σ 22 7) = wv := by
    rw [← hwv]
    unfold md_wv md_lw
    rw [show md_mk τ K (-2) (-2) 70 = τ 70 from funext fun k => md_mk_at (by decide), md_mk_at (by decide), md_mk_at (by decide), md_mk_at (by decide)]
  have eT : md_pw τ P K A = md_mk (md_off (am_up (md_mk τ K (-2) (-2)) 73 Q (w32 (σ 28 Q + wv))) D (σ 22 7)) K (σ 18 D) (σ 23 A) := by
    unfold md_pw md_got
    rw [n2, hD, q.1.2.1, h2.1, hm, hQ, md_mk_at (by decide), h4 Q (by omega)]
  rw [eS, eT]
  have hd19 : dia_lead σ K Q (σ 18 D) (σ 23 A) wv 19 D = σ 19 D := dia_lead_at (by decide)
  have hd16 : dia_lead σ K Q (σ 18 D) (σ 23 A) wv 16 5 = σ 16 5 := dia_lead_at (by decide)
  have hW : c_whole σ (σ 23 A) ≠ 0 ↔ md_wh (am_up (md_mk τ K (-2) (-2)) 73 Q (w32 (σ 28 Q + wv))) D (σ 22 7) := by
    unfold c_whole md_wh
    rw [am_up_k (c' := 68) (by omega), md_mk_at (c := 68) (by decide), q.1.2.2.2.1, am_up_k (c' := 64) (by omega), md_mk_at (c := 64) (by decide), am_up_k (c' := 64) (by omega), md_mk_at (c := 64) (by decide), hD, (g1.2.1 (σ 22 7 / 4).toNat (by omega)).1]
    have r := q.2.2.2.2.2.1
    by_cases e12 : σ 20 D = 12
    · rw [if_pos (Or.inl e12)]; exact ⟨fun _ => Or.inl e12, fun _ => by decide⟩
    · rw [(g1.2.1 (σ 20 D).toNat (by omega)).1]
      by_cases e3 : σ 2 (σ 20 D).toNat ≤ σ 2 (σ 22 7 / 4).toNat
      · rw [if_pos (Or.inr e3)]; exact ⟨fun _ => Or.inr e3, fun _ => by decide⟩
      · rw [if_neg (by omega)]; exact ⟨fun z => absurd rfl z, fun z => by omega⟩
  have hDeb : RDeb (led_work (dia_lead σ K Q (σ 18 D) (σ 23 A) wv) D (c_whole σ (σ 23 A))) (md_off (am_up (md_mk τ K (-2) (-2)) 73 Q (w32 (σ 28 Q + wv))) D (σ 22 7)) 16 7 68 :=
    cq_work (RDeb_of (fun c k hc => dia_lead_at (by omega)) (fun c k hc => by rw [am_up_k (by omega), md_mk_at (by omega)]) g4) (by rw [hd16]; exact hDc) (by rw [hd19]; exact h0) hW
  have hs : ∀ c k : Nat, c ≠ 19 ∧ c ≠ 21 ∧ c ≠ 26 ∧ c ≠ 27 ∧ c ≠ 28 → led_work (dia_lead σ K Q (σ 18 D) (σ 23 A) wv) D (c_whole σ (σ 23 A)) c k = σ c k := fun c k hc => by rw [led_work_at (by omega), dia_lead_at (by omega)]
  have s26 : ∀ k : Nat, led_work (dia_lead σ K Q (σ 18 D) (σ 23 A) wv) D (c_whole σ (σ 23 A)) 26 k = if k = K then σ 18 D else σ 26 k := fun k => by
    rw [led_work_at (by omega)]; unfold dia_lead; rw [am_up_k (by omega), am_up_k (by omega), am_up_r]
  have s27 : ∀ k : Nat, led_work (dia_lead σ K Q (σ 18 D) (σ 23 A) wv) D (c_whole σ (σ 23 A)) 27 k = if k = K then σ 23 A else σ 27 k := fun k => by
    rw [led_work_at (by omega)]; unfold dia_lead; rw [am_up_k (by omega), am_up_r, am_up_k (by omega)]
  have s28 : ∀ k : Nat, led_work (dia_lead σ K Q (σ 18 D) (σ 23 A) wv) D (c_whole σ (σ 23 A)) 28 k = if k = Q then w32 (σ 28 Q + wv) else σ 28 k := fun k => by
    rw [led_work_at (by omega)]; unfold dia_lead; rw [am_up_r, am_up_k (by omega), am_up_k (by omega)]
  have ht : ∀ c k : Nat, c ≠ 68 ∧ c ≠ 73 ∧ c ≠ 74 ∧ c ≠ 75 → md_mk (md_off (am_up (md_mk τ K (-2) (-2)) 73 Q (w32 (σ 28 Q + wv))) D (σ 22 7)) K (σ 18 D) (σ 23 A) c k = τ c k := fun c k hc => by
    rw [md_mk_at (by omega), md_off_at (by omega), am_up_k (by omega), md_mk_at (by omega)]
  have t73 : ∀ k : Nat, md_mk (md_off (am_up (md_mk τ K (-2) (-2)) 73 Q (w32 (σ 28 Q + wv))) D (σ 22 7)) K (σ 18 D) (σ 23 A) 73 k = if k = Q then w32 (σ 28 Q + wv) else τ 73 k := fun k => by
    rw [md_mk_at (by omega), md_off_at (by omega), am_up_r, md_mk_at (by omega)]
  have t74 : ∀ k : Nat, md_mk (md_off (am_up (md_mk τ K (-2) (-2)) 73 Q (w32 (σ 28 Q + wv))) D (σ 22 7)) K (σ 18 D) (σ 23 A) 74 k = if k = K then σ 18 D else τ 74 k := fun k => by
    unfold md_mk
    rw [am_up_k (by omega), am_up_r]
    by_cases e : k = K
    · rw [if_pos e, if_pos e]
    · rw [if_neg e, if_neg e, md_off_at (by omega), am_up_k (by omega), am_up_k (by omega), am_up_k (by omega)]
  have t75 : ∀ k : Nat, md_mk (md_off (am_up (md_mk τ K (-2) (-2)) 73 Q (w32 (σ 28 Q + wv))) D (σ 22 7)) K (σ 18 D) (σ 23 A) 75 k = if k = K then σ 23 A else τ 75 k := fun k => by
    unfold md_mk
    rw [am_up_r]
    by_cases e : k = K
    · rw [if_pos e, if_pos e]
    · rw [if_neg e, if_neg e, am_up_k (by omega), md_off_at (by omega), am_up_k (by omega), am_up_k (by omega), am_up_k (by omega)]
  have hDeb2 : RDeb (led_work (dia_lead σ K Q (σ 18 D) (σ 23 A) wv) D (c_whole σ (σ 23 A))) (md_mk (md_off (am_up (md_mk τ K (-2) (-2)) 73 Q (w32 (σ 28 Q + wv))) D (σ 22 7)) K (σ 18 D) (σ 23 A)) 16 7 68 :=
    RDeb_of (fun _ _ _ => rfl) (fun c k hc => md_mk_at (by omega)) hDeb
  clear hDeb hW hm eS eT
  generalize led_work (dia_lead σ K Q (σ 18 D) (σ 23 A) wv) D (c_whole σ (σ 23 A)) = σ' at *
  generalize md_mk (md_off (am_up (md_mk τ K (-2) (-2)) 73 Q (w32 (σ 28 Q + wv))) D (σ 22 7)) K (σ 18 D) (σ 23 A) = τ' at *
  refine ⟨RSet_of (fun c k hc => hs c k (by omega)) (fun c k hc => ht c k (by omega)) g1,
    RChg_of (fun c k hc => hs c k (by omega)) (fun c k hc => ht c k (by omega)) g2,
    RLaw_of (fun c k hc => hs c k (by omega)) (fun c k hc => ht c k (by omega)) g3,
    hDeb2,
    ?_,
    RFlg_of (fun c k hc => hs c k (by omega)) g6,
    RImg_of (fun c k hc => hs c k (by omega)) (fun c k hc => ht c k (by omega)) g7,
    RBod_of (fun c k hc => hs c k (by omega)) (fun c k hc => ht c k (by omega)) g8,
    RShe_of (fun c k hc => hs c k (by omega)) (fun c k hc => ht c k (by omega)) g9,
    ⟨(hs 44 0 (by omega)).trans g10.1, (hs 45 0 (by omega)).trans g10.2⟩⟩
  unfold RDiM
  rw [hs 22 6 (by omega), hs 22 7 (by omega), hs 16 5 (by omega), ht 63 20 (by omega), ht 63 9 (by omega)]
  refine ⟨h1, h2, fun k hk => ?_, fun p hp => ?_, fun k hk => ?_, fun k hk hk2 => ?_⟩
  · rw [hs 23 k (by omega), hs 24 k (by omega), hs 25 k (by omega), ht 72 _ (by omega), ht 72 _ (by omega), ht 72 _ (by omega)]; exact h3 k hk
  · rw [s28, t73]
    by_cases e : p = Q
    · rw [if_pos e, if_pos e]
    · rw [if_neg e, if_neg e]; exact h4 p hp
  · rw [s26, s27, t74, t75]
    by_cases e : k = K
    · rw [if_pos e, if_pos e, if_pos e, if_pos e]; exact ⟨rfl, rfl⟩
    · rw [if_neg e, if_neg e, if_neg e, if_neg e]; exact h5 k (by omega)
  · rw [s26, s27, if_neg (by omega), if_neg (by omega)]; exact h6 k (by omega) hk2
/-- the day ends -/
theorem RM_end {P : Nat} {σ τ : am_H} (h : RM P σ τ) (hP : (P : Int) = σ 1 2) (hn : σ 22 7 ≤ 47) : RR (dia_end σ) (md_end τ) := by
  have hpp : τ 63 6 = σ 1 2 ∧ 0 ≤ σ 1 2 ∧ σ 1 2 ≤ 8 := h.1.1
  have hs : ∀ c k : Nat, c ≠ 25 ∧ (c ≠ 22 ∨ k ≠ 7) → dia_end σ c k = σ c k := fun c k hc => dia_end_at hc.1 hc.2
  have s25 : ∀ k : Nat, dia_end σ 25 k = if k < (σ 22 6).toNat ∧ σ 24 k = σ 22 7 then 1 else σ 25 k := fun k => by
    unfold dia_end
    rw [am_up_k (by omega)]
    unfold dia_endL
    by_cases e : k < (σ 22 6).toNat ∧ σ 24 k = σ 22 7
    · rw [if_pos ⟨rfl, e⟩, if_pos e]
    · rw [if_neg (fun q => e q.2), if_neg e]
  have s7 : dia_end σ 22 7 = σ 22 7 + 1 := dia_end_7
  obtain ⟨h1, h2, h3, h4, h5, h6⟩ := h.2.2.2.2.1
  have ht : ∀ c k : Nat, c ≠ 72 ∧ c ≠ 74 ∧ c ≠ 75 ∧ (c ≠ 63 ∨ k ≠ 9) → md_end τ c k = τ c k := fun c k hc => by
    unfold md_end; rw [am_up_k (by omega), md_dn_at (by omega), md_rest_at (by omega)]
  have t9 : md_end τ 63 9 = σ 22 7 + 1 := by unfold md_end; rw [am_up_eq, h2.1]
  have t72 : ∀ k : Nat, md_end τ 72 (3 * k) = τ 72 (3 * k) ∧ md_end τ 72 (3 * k + 1) = τ 72 (3 * k + 1) ∧ md_end τ 72 (3 * k + 2) = if k < (σ 22 6).toNat ∧ τ 72 (3 * k + 1) = σ 22 7 then 1 else τ 72 (3 * k + 2) := fun k => by
    unfold md_end
    refine ⟨?_, ?_, ?_⟩
    · rw [am_up_k (by omega), md_dn_at (by omega), md_rest_at (by omega)]
    · rw [am_up_k (by omega), md_dn_at (by omega), md_rest_at (by omega)]
    · rw [am_up_k (by omega)]
      unfold md_dn
      rw [show (3 * k + 2) / 3 = k by omega, md_rest_at (c := 72) (by decide), md_rest_at (c := 63) (by decide), md_rest_at (c := 72) (by decide), h1.1, h2.1]
      by_cases e : k < (σ 22 6).toNat ∧ τ 72 (3 * k + 1) = σ 22 7
      · rw [if_pos ⟨rfl, by omega, e⟩, if_pos e]
      · rw [if_neg (fun q => e q.2.2), if_neg e]
  have t74 : ∀ c k : Nat, c = 74 ∨ c = 75 → md_end τ c k = if (8 * σ 22 7 + σ 1 2).toNat ≤ k ∧ k < (8 * σ 22 7 + σ 1 2).toNat + (8 - σ 1 2).toNat then -2 else τ c k := fun c k hc => by
    unfold md_end
    rw [am_up_k (by omega), md_dn_at (by omega)]
    unfold md_rest
    rw [h2.1, hpp.1]
    by_cases e : (8 * σ 22 7 + σ 1 2).toNat ≤ k ∧ k < (8 * σ 22 7 + σ 1 2).toNat + (8 - σ 1 2).toNat
    · rw [if_pos ⟨hc, e⟩, if_pos e]
    · rw [if_neg (fun q => e q.2), if_neg e]
  generalize dia_end σ = σ' at *
  generalize md_end τ = τ' at *
  obtain ⟨g1, g2, g3, g4, g5, g6, g7, g8, g9, g10⟩ := h
  refine ⟨RSet_of (fun c k hc => hs c k (by omega)) (fun c k hc => ht c k (by omega)) g1,
    RChg_of (fun c k hc => hs c k (by omega)) (fun c k hc => ht c k (by omega)) g2,
    RLaw_of (fun c k hc => hs c k (by omega)) (fun c k hc => ht c k (by omega)) g3,
    RDeb_of (fun c k hc => hs c k (by omega)) (fun c k hc => ht c k (by omega)) g4,
    ?_,
    fun j hj => ?_,
    RImg_of (fun c k hc => hs c k (by omega)) (fun c k hc => ht c k (by omega)) g7,
    RBod_of (fun c k hc => hs c k (by omega)) (fun c k hc => ht c k (by omega)) g8,
    RShe_of (fun c k hc => hs c k (by omega)) (fun c k hc => ht c k (by omega)) g9,
    ⟨(hs 44 0 (by omega)).trans g10.1, (hs 45 0 (by omega)).trans g10.2⟩⟩
  · show (τ' 63 20 = σ' 22 6 ∧ 0 ≤ σ' 22 6 ∧ σ' 22 6 ≤ 30) ∧ (τ' 63 9 = σ' 22 7 ∧ 0 ≤ σ' 22 7 ∧ σ' 22 7 ≤ 48) ∧ (∀ k : Nat, (k : Int) < σ' 22 6 → (τ' 72 (3 * k) = σ' 23 k ∧ τ' 72 (3 * k + 1) = σ' 24 k ∧ τ' 72 (3 * k + 2) = σ' 25 k) ∧ (0 ≤ σ' 23 k ∧ σ' 23 k < σ' 16 5) ∧ 0 ≤ σ' 24 k ∧ σ' 24 k ≤ 47) ∧
      (∀ p : Nat, p < 8 → τ' 73 p = σ' 28 p) ∧ (∀ k : Nat, (k : Int) < 8 * σ' 22 7 → τ' 74 k = σ' 26 k ∧ τ' 75 k = σ' 27 k) ∧ (∀ k : Nat, 8 * σ' 22 7 ≤ (k : Int) → k < 384 → σ' 26 k = -2 ∧ σ' 27 k = -2)
    rw [hs 22 6 (by omega), s7, hs 16 5 (by omega), ht 63 20 (by omega), t9]
    refine ⟨h1, ⟨rfl, by omega, by omega⟩, fun k hk => ?_, fun p hp => ?_, fun k hk => ?_, fun k hk hk2 => ?_⟩
    · have q := h3 k hk
      rw [(t72 k).1, (t72 k).2.1, (t72 k).2.2, hs 23 k (by omega), hs 24 k (by omega), s25, q.1.2.1, q.1.2.2]
      exact ⟨⟨q.1.1, rfl, rfl⟩, q.2⟩
    · rw [ht 73 p (by omega), hs 28 p (by omega)]; exact h4 p hp
    · rw [t74 74 k (by omega), t74 75 k (by omega), hs 26 k (by omega), hs 27 k (by omega)]
      by_cases e : (8 * σ 22 7 + σ 1 2).toNat ≤ k ∧ k < (8 * σ 22 7 + σ 1 2).toNat + (8 - σ 1 2).toNat
      · rw [if_pos e, if_pos e]
        have q := h6 k (by omega) (by omega)
        exact ⟨q.1.symm, q.2.symm⟩
      · rw [if_neg e, if_neg e]; exact h5 k (by omega)
    · rw [hs 26 k (by omega), hs 27 k (by omega)]; exact h6 k (by omega) hk2
  · rw [s25, hs 38 j (by omega)]
    refine ⟨?_, (g6 j hj).2⟩
    by_cases e : j < (σ 22 6).toNat ∧ σ 24 j = σ 22 7
    · rw [if_pos e]; exact Or.inr rfl
    · rw [if_neg e]; exact (g6 j hj).1
