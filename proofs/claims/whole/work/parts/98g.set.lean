/-! the coupling: settings, their changes, acts, the law -/
theorem set_tell_k {σ : am_H} {k c j : Nat} {b v : Int} (h : c ≠ 2 ∧ c ≠ 3 ∧ (c ≠ 1 ∨ (j ≠ 3 ∧ j ≠ 4))) : set_tell σ k b v c j = σ c j := by
  unfold set_tell
  (repeat' split) <;> exact am_up_k (by omega)
theorem cq_tell {σ τ : am_H} {w n v : Int} (h : RSet σ τ) (hc : chg_ok (σ 1 2) w n v) : RSet (set_tell σ n.toNat w v) (am_up τ 64 (chg_at w n).toNat v) := by
  obtain ⟨⟨p1, p2⟩, l, s, r, i⟩ := h
  rcases hc with ⟨rfl, h1, h2⟩ | ⟨rfl, h1, h2⟩ | ⟨rfl, rfl, h2⟩ | ⟨rfl, rfl, h2⟩
  · have e1 : set_tell σ n.toNat 0 v = am_up σ 2 n.toNat v := if_pos rfl
    have e2 : chg_at 0 n = n := if_pos rfl
    rw [e1, e2]
    refine ⟨?_, fun k hk => ?_, fun k hk => ?_, ?_, ?_⟩
    · rw [am_up_k (by omega), am_up_k (by omega)]; exact ⟨p1, p2⟩
    · rw [am_up_r, am_up_r]
      by_cases e : k = n.toNat
      · rw [if_pos e, if_pos e]; exact ⟨rfl, h2⟩
      · rw [if_neg e, if_neg e]; exact l k hk
    · rw [am_up_k (by omega)] at hk
      rw [am_up_k (by omega), am_up_k (by omega)]; exact s k hk
    · rw [am_up_k (by omega), am_up_k (by omega)]; exact r
    · rw [am_up_k (by omega), am_up_k (by omega)]; exact i
  · have e1 : set_tell σ n.toNat 1 v = am_up σ 3 n.toNat v := by unfold set_tell; rw [if_neg (by decide), if_pos rfl]
    have e2 : (chg_at 1 n).toNat = 12 + n.toNat := by unfold chg_at; rw [if_neg (by decide), if_pos rfl]; omega
    rw [e1, e2]
    refine ⟨?_, fun k hk => ?_, fun k hk => ?_, ?_, ?_⟩
    · rw [am_up_k (by omega), am_up_k (by omega)]; exact ⟨p1, p2⟩
    · rw [am_up_k (by omega), am_up_k (by omega)]; exact l k hk
    · rw [am_up_k (by omega)] at hk
      rw [am_up_r, am_up_r]
      by_cases e : k = n.toNat
      · rw [if_pos (by omega), if_pos e]; exact ⟨rfl, h2⟩
      · rw [if_neg (by omega), if_neg e]; exact s k hk
    · rw [am_up_k (by omega), am_up_k (by omega)]; exact r
    · rw [am_up_k (by omega), am_up_k (by omega)]; exact i
  · have e1 : set_tell σ (0 : Int).toNat 2 v = am_up σ 1 3 v := by unfold set_tell; rw [if_neg (by decide), if_neg (by decide), if_pos rfl]
    have e2 : (chg_at 2 0).toNat = 20 := by decide
    rw [e1, e2]
    refine ⟨?_, fun k hk => ?_, fun k hk => ?_, ?_, ?_⟩
    · rw [am_up_k (by omega), am_up_k (by omega)]; exact ⟨p1, p2⟩
    · rw [am_up_k (by omega), am_up_k (by omega)]; exact l k hk
    · rw [am_up_k (by omega)] at hk
      rw [am_up_k (by omega), am_up_k (by omega)]; exact s k hk
    · rw [am_up_eq, am_up_eq]; exact ⟨rfl, h2⟩
    · rw [am_up_k (by omega), am_up_k (by omega)]; exact i
  · have e1 : set_tell σ (0 : Int).toNat 3 v = am_up σ 1 4 v := by unfold set_tell; rw [if_neg (by decide), if_neg (by decide), if_neg (by decide)]
    have e2 : (chg_at 3 0).toNat = 21 := by decide
    rw [e1, e2]
    refine ⟨?_, fun k hk => ?_, fun k hk => ?_, ?_, ?_⟩
    · rw [am_up_k (by omega), am_up_k (by omega)]; exact ⟨p1, p2⟩
    · rw [am_up_k (by omega), am_up_k (by omega)]; exact l k hk
    · rw [am_up_k (by omega)] at hk
      rw [am_up_k (by omega), am_up_k (by omega)]; exact s k hk
    · rw [am_up_k (by omega), am_up_k (by omega)]; exact r
    · rw [am_up_eq, am_up_eq]; exact ⟨rfl, h2⟩
theorem cq_told {σ τ : am_H} {a b : Int} (h : RSet σ τ) (hn : c_num σ a b) : τ 64 (chg_at b a).toNat = set_told σ a.toNat b ∧ chg_ok (σ 1 2) b a (set_told σ a.toNat b) := by
  obtain ⟨⟨p1, p2⟩, l, s, r, i⟩ := h
  unfold c_num at hn
  rcases hn with ⟨rfl, h1⟩ | ⟨rfl, h1⟩ | ⟨rfl, rfl⟩ | ⟨rfl, rfl⟩
  · have q := l a.toNat (by omega)
    refine ⟨q.1, Or.inl ⟨rfl, h1, q.2⟩⟩
  · have q := s a.toNat (by omega)
    have e2 : (chg_at 1 a).toNat = 12 + a.toNat := by unfold chg_at; rw [if_neg (by decide), if_pos rfl]; omega
    rw [e2]
    exact ⟨q.1, Or.inr (Or.inl ⟨rfl, h1, q.2⟩)⟩
  · exact ⟨r.1, Or.inr (Or.inr (Or.inl ⟨rfl, rfl, r.2⟩))⟩
  · exact ⟨i.1, Or.inr (Or.inr (Or.inr ⟨rfl, rfl, i.2⟩))⟩
/-- settings and their changes alone differ -/
theorem RR_set {σ τ σ' τ' : am_H} (hp : σ' 1 2 = σ 1 2) (hs : ∀ c k : Nat, 9 ≤ c ∨ c = 0 → σ' c k = σ c k) (ht : ∀ c k : Nat, c ≠ 64 ∧ c ≠ 65 ∧ c ≠ 66 ∧ c ≠ 67 ∧ (c ≠ 63 ∨ (k ≠ 4 ∧ k ≠ 5)) → τ' c k = τ c k) (h1 : RSet σ' τ') (h2 : RChg σ' τ') (h : RR σ τ) : RR σ' τ' := by
  have hs2 : ∀ c k : Nat, (9 ≤ c ∨ c = 0) ∨ (c = 1 ∧ k = 2) → σ' c k = σ c k := fun c k hc => by
    by_cases e : c = 1
    · rw [e, show k = 2 by omega]; exact hp
    · exact hs c k (by omega)
  obtain ⟨g1, g2, g3, g4, g5, g6, g7, g8, g9, g10⟩ := h
  refine ⟨h1,
    h2,
    RLaw_of (fun c k hc => hs2 c k (by omega)) (fun c k hc => ht c k (by omega)) g3,
    RDeb_of (fun c k hc => hs2 c k (by omega)) (fun c k hc => ht c k (by omega)) g4,
    RDia_of (fun c k hc => hs2 c k (by omega)) (fun c k hc => ht c k (by omega)) g5,
    RFlg_of (fun c k hc => hs2 c k (by omega)) g6,
    RImg_of (fun c k hc => hs2 c k (by omega)) (fun c k hc => ht c k (by omega)) g7,
    RBod_of (fun c k hc => hs2 c k (by omega)) (fun c k hc => ht c k (by omega)) g8,
    RShe_of (fun c k hc => hs2 c k (by omega)) (fun c k hc => ht c k (by omega)) g9,
    ⟨(hs2 44 0 (by omega)).trans g10.1, (hs2 45 0 (by omega)).trans g10.2⟩⟩
theorem cq_undo {σ τ : am_H} (h : RR σ τ) (h0 : σ 4 4 ≠ 0) : RR (chg_back σ (σ 4 4 - 1).toNat) (md_undo τ (τ 63 5 - 1).toNat) := by
  have h' := h
  obtain ⟨g1, g2, g3, g4, g5, g6, g7, g8, g9, g10⟩ := h
  have c2 := g2.1
  have q := g2.2 (σ 4 4 - 1).toNat (by omega)
  rw [c2.1]
  unfold chg_back md_undo
  rw [q.1.1, q.1.2.1, c2.1]
  have hS : RSet (am_up (am_up σ 4 4 (σ 4 4 - 1)) 4 5 (σ 4 5 + 1)) (am_up τ 63 5 (σ 4 4 - 1)) := RSet_of (fun c k hc => by rw [am_up_k (by omega), am_up_k (by omega)]) (fun c k hc => am_up_k (by omega)) g1
  have hT := cq_tell (w := σ 6 (σ 4 4 - 1).toNat) (n := σ 5 (σ 4 4 - 1).toNat) (v := σ 7 (σ 4 4 - 1).toNat) hS (by rw [am_up_k (by omega), am_up_k (by omega)]; exact q.2.1)
  refine RR_set ?_ (fun c k hc => ?_) (fun c k hc => ?_) hT ?_ h'
  · rw [set_tell_k (by omega), am_up_k (by omega), am_up_k (by omega)]
  · rw [set_tell_k (by omega), am_up_k (by omega), am_up_k (by omega)]
  · rw [am_up_k (by omega), am_up_k (by omega)]
  · unfold RChg
    rw [set_tell_k (c := 4) (j := 4) (by omega), set_tell_k (c := 4) (j := 5) (by omega), am_up_k (c' := 4) (k' := 4) (by omega), am_up_eq, am_up_eq, am_up_k (c' := 63) (k' := 5) (by omega), am_up_eq, am_up_k (c' := 63) (k' := 4) (by omega), am_up_k (c' := 63) (k' := 4) (by omega)]
    refine ⟨⟨rfl, by omega, by omega, by omega, by omega⟩, fun k hk => ?_⟩
    rw [set_tell_k (c := 5) (by omega), set_tell_k (c := 6) (by omega), set_tell_k (c := 7) (by omega), set_tell_k (c := 8) (by omega), set_tell_k (c := 1) (j := 2) (by omega),
      am_up_k (c' := 5) (by omega), am_up_k (c' := 5) (by omega), am_up_k (c' := 6) (by omega), am_up_k (c' := 6) (by omega), am_up_k (c' := 7) (by omega), am_up_k (c' := 7) (by omega), am_up_k (c' := 8) (by omega), am_up_k (c' := 8) (by omega), am_up_k (c' := 1) (by omega), am_up_k (c' := 1) (by omega),
      am_up_k (c' := 65) (by omega), am_up_k (c' := 65) (by omega), am_up_k (c' := 66) (by omega), am_up_k (c' := 66) (by omega), am_up_k (c' := 67) (by omega), am_up_k (c' := 67) (by omega)]
    exact g2.2 k (by omega)
theorem cq_redo {σ τ : am_H} (h : RR σ τ) (h0 : σ 4 5 ≠ 0) : RR (chg_again σ (σ 4 4).toNat) (md_redo τ (τ 63 5).toNat) := by
  have h' := h
  obtain ⟨g1, g2, g3, g4, g5, g6, g7, g8, g9, g10⟩ := h
  have c2 := g2.1
  have q := g2.2 (σ 4 4).toNat (by omega)
  rw [c2.1]
  unfold chg_again md_redo
  rw [q.1.1, q.1.2.2, c2.1]
  have hT := cq_tell (w := σ 6 (σ 4 4).toNat) (n := σ 5 (σ 4 4).toNat) (v := σ 8 (σ 4 4).toNat) g1 q.2.2
  refine RR_set ?_ (fun c k hc => ?_) (fun c k hc => ?_) (RSet_of (fun c k hc => by rw [am_up_k (by omega), am_up_k (by omega)]) (fun c k hc => am_up_k (by omega)) hT) ?_ h'
  · rw [am_up_k (by omega), am_up_k (by omega), set_tell_k (by omega)]
  · rw [am_up_k (by omega), am_up_k (by omega), set_tell_k (by omega)]
  · rw [am_up_k (by omega), am_up_k (by omega)]
  · unfold RChg
    rw [am_up_k (c' := 4) (k' := 4) (by omega), am_up_eq, am_up_eq, am_up_eq, am_up_k (c' := 63) (k' := 4) (by omega), am_up_k (c' := 63) (k' := 4) (by omega)]
    refine ⟨⟨rfl, by omega, by omega, by omega, by omega⟩, fun k hk => ?_⟩
    rw [am_up_k (c' := 5) (by omega), am_up_k (c' := 5) (by omega), am_up_k (c' := 6) (by omega), am_up_k (c' := 6) (by omega), am_up_k (c' := 7) (by omega), am_up_k (c' := 7) (by omega), am_up_k (c' := 8) (by omega), am_up_k (c' := 8) (by omega), am_up_k (c' := 1) (by omega), am_up_k (c' := 1) (by omega),
      set_tell_k (c := 5) (by omega), set_tell_k (c := 6) (by omega), set_tell_k (c := 7) (by omega), set_tell_k (c := 8) (by omega), set_tell_k (c := 1) (j := 2) (by omega),
      am_up_k (c' := 65) (by omega), am_up_k (c' := 65) (by omega), am_up_k (c' := 66) (by omega), am_up_k (c' := 66) (by omega), am_up_k (c' := 67) (by omega), am_up_k (c' := 67) (by omega)]
    exact g2.2 k (by omega)
/-- a change pushed on -/
theorem cq_push {σ τ s t : am_H} {a b c v : Int} (h : RR σ τ) (hs : ∀ d k : Nat, d < 4 ∨ 8 < d → s d k = σ d k) (ht : ∀ d k : Nat, d ≠ 65 ∧ d ≠ 66 ∧ d ≠ 67 ∧ (d ≠ 63 ∨ k ≠ 5) → t d k = τ d k) (hn : t 63 5 = s 4 4 ∧ 0 ≤ s 4 4 ∧ s 4 4 ≤ 39)
    (he : ∀ k : Nat, (k : Int) < s 4 4 → (t 65 k = chg_at (s 6 k) (s 5 k) ∧ t 66 k = s 7 k ∧ t 67 k = s 8 k) ∧ chg_ok (σ 1 2) (s 6 k) (s 5 k) (s 7 k) ∧ chg_ok (σ 1 2) (s 6 k) (s 5 k) (s 8 k)) (hv : chg_ok (σ 1 2) b a v) (hc : chg_ok (σ 1 2) b a c) : RR (set_tell (chg_push s a b v c) a.toNat b c) (md_push t (chg_at b a).toNat v c) := by
  have h' := h
  obtain ⟨g1, g2, g3, g4, g5, g6, g7, g8, g9, g10⟩ := h
  have hat : 0 ≤ chg_at b a := by
    unfold chg_at chg_ok at *; (repeat' split) <;> omega
  have ps : ∀ d k : Nat, d < 4 ∨ 8 < d → chg_push s a b v c d k = σ d k := fun d k hd => by
    unfold chg_push; rw [am_up_k (by omega), am_up_k (by omega), am_up_k (by omega), am_up_k (by omega), am_up_k (by omega), am_up_k (by omega)]; exact hs d k hd
  have ps5 : ∀ k : Nat, chg_push s a b v c 5 k = if k = (s 4 4).toNat then a else s 5 k := fun k => by
    unfold chg_push; rw [am_up_k (by omega), am_up_k (by omega), am_up_k (by omega), am_up_k (by omega), am_up_k (by omega), am_up_r]
  have ps6 : ∀ k : Nat, chg_push s a b v c 6 k = if k = (s 4 4).toNat then b else s 6 k := fun k => by
    unfold chg_push; rw [am_up_k (by omega), am_up_k (by omega), am_up_k (by omega), am_up_k (by omega), am_up_r, am_up_k (by omega)]
  have ps7 : ∀ k : Nat, chg_push s a b v c 7 k = if k = (s 4 4).toNat then v else s 7 k := fun k => by
    unfold chg_push; rw [am_up_k (by omega), am_up_k (by omega), am_up_k (by omega), am_up_r, am_up_k (by omega), am_up_k (by omega)]
  have ps8 : ∀ k : Nat, chg_push s a b v c 8 k = if k = (s 4 4).toNat then c else s 8 k := fun k => by
    unfold chg_push; rw [am_up_k (by omega), am_up_k (by omega), am_up_r, am_up_k (by omega), am_up_k (by omega), am_up_k (by omega)]
  have ps44 : chg_push s a b v c 4 4 = s 4 4 + 1 := by
    unfold chg_push; rw [am_up_k (by omega), am_up_eq]
  have ps45 : chg_push s a b v c 4 5 = 0 := by
    unfold chg_push; rw [am_up_eq]
  generalize chg_push s a b v c = s' at *
  obtain ⟨t', ht'⟩ : ∃ t', am_up (am_up (am_up (am_up (am_up t 65 (t 63 5).toNat ((chg_at b a).toNat : Int)) 66 (t 63 5).toNat v) 67 (t 63 5).toNat c) 63 5 (t 63 5 + 1)) 63 4 (t 63 5 + 1) = t' := ⟨_, rfl⟩
  have hp : md_push t (chg_at b a).toNat v c = am_up t' 64 (chg_at b a).toNat c := by rw [← ht']; rfl
  have pt : ∀ d k : Nat, d ≠ 65 ∧ d ≠ 66 ∧ d ≠ 67 ∧ (d ≠ 63 ∨ (k ≠ 5 ∧ k ≠ 4)) → t' d k = τ d k := fun d k hd => by
    rw [← ht', am_up_k (by omega), am_up_k (by omega), am_up_k (by omega), am_up_k (by omega), am_up_k (by omega)]; exact ht d k (by omega)
  have pt65 : ∀ k : Nat, t' 65 k = if k = (s 4 4).toNat then ((chg_at b a).toNat : Int) else t 65 k := fun k => by
    rw [← ht', am_up_k (by omega), am_up_k (by omega), am_up_k (by omega), am_up_k (by omega), am_up_r, hn.1]
  have pt66 : ∀ k : Nat, t' 66 k = if k = (s 4 4).toNat then v else t 66 k := fun k => by
    rw [← ht', am_up_k (by omega), am_up_k (by omega), am_up_k (by omega), am_up_r, hn.1, am_up_k (by omega)]
  have pt67 : ∀ k : Nat, t' 67 k = if k = (s 4 4).toNat then c else t 67 k := fun k => by
    rw [← ht', am_up_k (by omega), am_up_k (by omega), am_up_r, hn.1, am_up_k (by omega), am_up_k (by omega)]
  have pt5 : t' 63 5 = s 4 4 + 1 := by rw [← ht', am_up_k (by omega), am_up_eq, hn.1]
  have pt4 : t' 63 4 = s 4 4 + 1 := by rw [← ht', am_up_eq, hn.1]
  clear ht'
  rw [hp]
  have hS : RSet s' t' := RSet_of (fun d k hd => ps d k (by omega)) (fun d k hd => pt d k (by omega)) g1
  have e12 : s' 1 2 = σ 1 2 := ps 1 2 (by omega)
  refine RR_set ?_ (fun d k hd => ?_) (fun d k hd => ?_) (cq_tell hS (by rw [e12]; exact hc)) ?_ h'
  · rw [set_tell_k (by omega)]; exact e12
  · rw [set_tell_k (by omega)]; exact ps d k (by omega)
  · rw [am_up_k (by omega)]; exact pt d k (by omega)
  · unfold RChg
    rw [set_tell_k (c := 4) (j := 4) (by omega), set_tell_k (c := 4) (j := 5) (by omega), ps44, ps45, am_up_k (c' := 63) (k' := 5) (by omega), am_up_k (c' := 63) (k' := 4) (by omega), pt5, pt4]
    refine ⟨⟨rfl, by omega, by omega, by omega, by omega⟩, fun k hk => ?_⟩
    rw [set_tell_k (c := 5) (by omega), set_tell_k (c := 6) (by omega), set_tell_k (c := 7) (by omega), set_tell_k (c := 8) (by omega), set_tell_k (c := 1) (j := 2) (by omega), e12,
      am_up_k (c' := 65) (by omega), am_up_k (c' := 66) (by omega), am_up_k (c' := 67) (by omega), ps5, ps6, ps7, ps8, pt65, pt66, pt67]
    by_cases e : k = (s 4 4).toNat
    · repeat rw [if_pos e]
      exact ⟨⟨by omega, rfl, rfl⟩, hv, hc⟩
    · repeat rw [if_neg e]
      exact he k (by omega)
theorem cq_mend {σ τ : am_H} {a b c : Int} (h : RR σ τ) (hn : c_num σ a b) (hv : c_alw b c) : τ 64 (chg_at b a).toNat = set_told σ a.toNat b ∧ (set_told σ a.toNat b = c → md_becomes τ (chg_at b a).toNat c = τ) ∧ (set_told σ a.toNat b ≠ c → RR (set_tell (chg_note σ a b (set_told σ a.toNat b) c) a.toNat b c) (md_becomes τ (chg_at b a).toNat c)) := by
  have q := cq_told h.1 hn
  have n := cq_n h
  have g2 : RChg σ τ := h.2.1
  have hc : chg_ok (σ 1 2) b a c := by
    unfold c_num c_alw chg_ok at *; omega
  unfold md_becomes
  rw [q.1]
  refine ⟨rfl, fun e => if_pos e, fun e => ?_⟩
  rw [if_neg e]
  unfold chg_note
  rw [n.1.2.2.2.2.2.1]
  by_cases e4 : σ 4 4 < 40
  · rw [if_pos e4, if_neg (by omega)]
    exact cq_push h (fun _ _ _ => rfl) (fun _ _ _ => rfl) ⟨n.1.2.2.2.2.2.1, by omega, by omega⟩ (fun k hk => g2.2 k (by have := g2.1; omega)) q.2 hc
  · rw [if_neg e4, if_pos (show σ 4 4 = 40 by omega)]
    have f : ∀ d k : Nat, d < 4 ∨ 8 < d → chg_forget σ d k = σ d k := fun d k hd => by
      unfold chg_forget; rw [am_up_k (by omega), am_cp_k (by omega), am_cp_k (by omega), am_cp_k (by omega), am_cp_k (by omega)]
    have f5 : ∀ k : Nat, k < 39 → chg_forget σ 5 k = σ 5 (k + 1) ∧ chg_forget σ 6 k = σ 6 (k + 1) ∧ chg_forget σ 7 k = σ 7 (k + 1) ∧ chg_forget σ 8 k = σ 8 (k + 1) := fun k hk => by
      simp [chg_forget, am_up, am_cp, hk, Nat.add_comm]
    have f44 : chg_forget σ 4 4 = 39 := by unfold chg_forget; rw [am_up_eq]
    refine cq_push h f (fun d k hd => by rw [am_up_k (by omega), md_shift_at (by omega)]) ⟨by rw [am_up_eq, f44], by omega, by omega⟩ (fun k hk => ?_) q.2 hc
    have m : ∀ d : Nat, d = 65 ∨ d = 66 ∨ d = 67 → am_up (md_shift τ 40) 63 5 39 d k = τ d (k + 1) := fun d hd => by
      rw [am_up_k (by omega)]; unfold md_shift; rw [if_pos (by omega)]
    have fk := f5 k (by omega)
    have c2 := g2.1
    rw [m 65 (by omega), m 66 (by omega), m 67 (by omega), fk.1, fk.2.1, fk.2.2.1, fk.2.2.2]
    exact g2.2 (k + 1) (by omega)
