/-! the class's cells (of σ) against the reference's (of τ) -/
/-- people, light, skill, rule, illness -/
def RSet (σ τ : am_H) : Prop := (τ 63 6 = σ 1 2 ∧ 0 ≤ σ 1 2 ∧ σ 1 2 ≤ 8) ∧ (∀ k : Nat, k < 12 → τ 64 k = σ 2 k ∧ 1 ≤ σ 2 k ∧ σ 2 k ≤ 9) ∧ (∀ k : Nat, (k : Int) < σ 1 2 → τ 64 (12 + k) = σ 3 k ∧ 1 ≤ σ 3 k ∧ σ 3 k ≤ 9) ∧ (τ 64 20 = σ 1 3 ∧ 0 ≤ σ 1 3 ∧ σ 1 3 ≤ 2) ∧ (τ 64 21 = σ 1 4 ∧ 0 ≤ σ 1 4 ∧ σ 1 4 ≤ 12)
theorem RSet_of {σ τ σ' τ' : am_H} (hs : ∀ c k : Nat, c = 2 ∨ c = 3 ∨ (c = 1 ∧ 2 ≤ k) → σ' c k = σ c k) (ht : ∀ c k : Nat, c = 64 ∨ (c = 63 ∧ k = 6) → τ' c k = τ c k) (h : RSet σ τ) : RSet σ' τ' := by
  unfold RSet
  rw [hs 1 2 (by decide), hs 1 3 (by decide), hs 1 4 (by decide), ht 63 6 (by decide), ht 64 20 (by decide), ht 64 21 (by decide)]
  refine ⟨h.1, fun k hk => ?_, fun k hk => ?_, h.2.2.2⟩
  · rw [hs 2 k (Or.inl rfl), ht 64 k (Or.inl rfl)]; exact h.2.1 k hk
  · rw [hs 3 k (Or.inr (Or.inl rfl)), ht 64 _ (Or.inl rfl)]; exact h.2.2.1 k hk
/-- where a change is, and which values it may have -/
def chg_at (w n : Int) : Int := if w = 0 then n else if w = 1 then 12 + n else if w = 2 then 20 else 21
def chg_ok (people w n v : Int) : Prop := (w = 0 ∧ (0 ≤ n ∧ n ≤ 11) ∧ 1 ≤ v ∧ v ≤ 9) ∨ (w = 1 ∧ (0 ≤ n ∧ n < people) ∧ 1 ≤ v ∧ v ≤ 9) ∨ (w = 2 ∧ n = 0 ∧ 0 ≤ v ∧ v ≤ 2) ∨ (w = 3 ∧ n = 0 ∧ 0 ≤ v ∧ v ≤ 12)
def RChg (σ τ : am_H) : Prop := (τ 63 5 = σ 4 4 ∧ τ 63 4 = σ 4 4 + σ 4 5 ∧ 0 ≤ σ 4 4 ∧ 0 ≤ σ 4 5 ∧ σ 4 4 + σ 4 5 ≤ 40) ∧ ∀ k : Nat, (k : Int) < σ 4 4 + σ 4 5 → (τ 65 k = chg_at (σ 6 k) (σ 5 k) ∧ τ 66 k = σ 7 k ∧ τ 67 k = σ 8 k) ∧ chg_ok (σ 1 2) (σ 6 k) (σ 5 k) (σ 7 k) ∧ chg_ok (σ 1 2) (σ 6 k) (σ 5 k) (σ 8 k)
theorem RChg_of {σ τ σ' τ' : am_H} (hs : ∀ c k : Nat, (4 ≤ c ∧ c ≤ 8) ∨ (c = 1 ∧ k = 2) → σ' c k = σ c k) (ht : ∀ c k : Nat, c = 65 ∨ c = 66 ∨ c = 67 ∨ (c = 63 ∧ (k = 4 ∨ k = 5)) → τ' c k = τ c k) (h : RChg σ τ) : RChg σ' τ' := by
  unfold RChg
  rw [hs 4 4 (by decide), hs 4 5 (by decide), hs 1 2 (by decide), ht 63 5 (by decide), ht 63 4 (by decide)]
  refine ⟨h.1, fun k hk => ?_⟩
  rw [hs 5 k (Or.inl (by decide)), hs 6 k (Or.inl (by decide)), hs 7 k (Or.inl (by decide)), hs 8 k (Or.inl (by decide)), ht 65 k (by omega), ht 66 k (by omega), ht 67 k (by omega)]
  exact h.2 k hk
/-- the tape, the law -/
def RLaw (σ τ : am_H) : Prop := ((τ 63 11 = σ 9 6 ∧ 0 ≤ σ 9 6 ∧ σ 9 6 ≤ 120) ∧ ∀ k : Nat, (k : Int) < σ 9 6 → τ 69 k = σ 10 k) ∧ CLaw σ ∧ MLaw τ ∧ md_lw τ = c_lw σ
theorem RLaw_of {σ τ σ' τ' : am_H} (hs : ∀ c k : Nat, c = 10 ∨ c = 11 ∨ (c = 9 ∧ (k = 6 ∨ k = 7)) → σ' c k = σ c k) (ht : ∀ c k : Nat, c = 69 ∨ c = 70 ∨ (c = 63 ∧ (k = 11 ∨ k = 13)) → τ' c k = τ c k) (h : RLaw σ τ) : RLaw σ' τ' := by
  have h7 : σ' 9 7 = σ 9 7 := hs 9 7 (by decide)
  have hr : rcl σ' 11 (σ 9 7).toNat = rcl σ 11 (σ 9 7).toNat := rcl_congr _ (fun k _ => hs 11 k (by omega))
  have h13 : τ' 63 13 = τ 63 13 := ht 63 13 (by decide)
  have hr2 : lx_cmp (τ' 70) (τ 63 13).toNat = lx_cmp (τ 70) (τ 63 13).toNat := lx_cmp_congr (fun k _ => ht 70 k (by omega))
  obtain ⟨⟨h1, h2⟩, h3, h4, h5⟩ := h
  refine ⟨⟨by rw [hs 9 6 (by decide), ht 63 11 (by decide)]; exact h1, fun k hk => ?_⟩, CLaw_of h7 (fun k => hs 11 k (by omega)) h3, MLaw_of h13 (fun k => ht 70 k (by omega)) h4, ?_⟩
  · rw [hs 9 6 (by decide)] at hk
    rw [hs 10 k (by omega), ht 69 k (by omega)]; exact h2 k hk
  · unfold md_lw c_lw at *
    rw [h7, hr, h13, hr2]; exact h5
/-- the debts: a block of the class's from cell b on, the reference's count at f, its row at d; people -/
def RDeb (σ τ : am_H) (b f d : Nat) : Prop := (τ 63 f = σ b 5 ∧ 0 ≤ σ b 5 ∧ σ b 5 ≤ 20) ∧ ∀ n : Nat, (n : Int) < σ b 5 →
  (τ d (5 * n) = σ (b + 1) n ∧ τ d (5 * n + 1) = σ (b + 2) n ∧ τ d (5 * n + 2) = σ (b + 3) n ∧ τ d (5 * n + 3) = σ (b + 4) n ∧ τ d (5 * n + 4) = σ (b + 5) n) ∧
  ((0 ≤ σ (b + 1) n ∧ σ (b + 1) n < σ 1 2) ∧ (0 ≤ σ (b + 2) n ∧ σ (b + 2) n < σ 1 2) ∧ σ (b + 1) n ≠ σ (b + 2) n ∧ (0 ≤ σ (b + 3) n ∧ σ (b + 3) n ≤ 9) ∧ (0 ≤ σ (b + 4) n ∧ σ (b + 4) n ≤ 12) ∧ (σ (b + 5) n = 0 ∨ σ (b + 5) n = 1))
theorem RDeb_of {σ τ σ' τ' : am_H} {b f d : Nat} (hs : ∀ c k : Nat, (b < c ∧ c ≤ b + 5) ∨ (c = b ∧ k = 5) ∨ (c = 1 ∧ k = 2) → σ' c k = σ c k) (ht : ∀ c k : Nat, c = d ∨ (c = 63 ∧ k = f) → τ' c k = τ c k) (h : RDeb σ τ b f d) : RDeb σ' τ' b f d := by
  unfold RDeb
  rw [hs b 5 (by omega), hs 1 2 (by omega), ht 63 f (by omega)]
  refine ⟨h.1, fun n hn => ?_⟩
  rw [hs (b + 1) n (by omega), hs (b + 2) n (by omega), hs (b + 3) n (by omega), hs (b + 4) n (by omega), hs (b + 5) n (by omega), ht d _ (Or.inl rfl), ht d _ (Or.inl rfl), ht d _ (Or.inl rfl), ht d _ (Or.inl rfl), ht d _ (Or.inl rfl)]
  exact h.2 n hn
/-- the diary: a block of the class's from cell b on, whose debts are the block's at bl; the reference's asks at fa, its day at fn, its rows a (asks), g (got), l, o -/
def RDia (σ τ : am_H) (b bl fa fn a g l o : Nat) : Prop := (τ 63 fa = σ b 6 ∧ 0 ≤ σ b 6 ∧ σ b 6 ≤ 30) ∧ (τ 63 fn = σ b 7 ∧ 0 ≤ σ b 7 ∧ σ b 7 ≤ 48) ∧ (∀ k : Nat, (k : Int) < σ b 6 → (τ a (3 * k) = σ (b + 1) k ∧ τ a (3 * k + 1) = σ (b + 2) k ∧ τ a (3 * k + 2) = σ (b + 3) k) ∧ (0 ≤ σ (b + 1) k ∧ σ (b + 1) k < σ bl 5) ∧ 0 ≤ σ (b + 2) k ∧ σ (b + 2) k ≤ 47) ∧
  (∀ p : Nat, p < 8 → τ g p = σ (b + 6) p) ∧ (∀ k : Nat, (k : Int) < 8 * σ b 7 → τ l k = σ (b + 4) k ∧ τ o k = σ (b + 5) k) ∧ (∀ k : Nat, 8 * σ b 7 ≤ (k : Int) → k < 384 → σ (b + 4) k = -2 ∧ σ (b + 5) k = -2)
theorem RDia_of {σ τ σ' τ' : am_H} {b bl fa fn a g l o : Nat} (hs : ∀ c k : Nat, (b < c ∧ c ≤ b + 6) ∨ (c = b ∧ (k = 6 ∨ k = 7)) ∨ (c = bl ∧ k = 5) → σ' c k = σ c k) (ht : ∀ c k : Nat, c = a ∨ c = g ∨ c = l ∨ c = o ∨ (c = 63 ∧ (k = fa ∨ k = fn)) → τ' c k = τ c k) (h : RDia σ τ b bl fa fn a g l o) : RDia σ' τ' b bl fa fn a g l o := by
  unfold RDia
  rw [hs b 6 (by omega), hs b 7 (by omega), hs bl 5 (by omega), ht 63 fa (by omega), ht 63 fn (by omega)]
  obtain ⟨h1, h2, h3, h4, h5, h6⟩ := h
  refine ⟨h1, h2, fun k hk => ?_, fun p hp => ?_, fun k hk => ?_, fun k hk hk2 => ?_⟩
  · rw [hs (b + 1) k (by omega), hs (b + 2) k (by omega), hs (b + 3) k (by omega), ht a _ (Or.inl rfl), ht a _ (Or.inl rfl), ht a _ (Or.inl rfl)]; exact h3 k hk
  · rw [hs (b + 6) p (by omega), ht g p (by omega)]; exact h4 p hp
  · rw [hs (b + 4) k (by omega), hs (b + 5) k (by omega), ht l k (by omega), ht o k (by omega)]; exact h5 k hk
  · rw [hs (b + 4) k (by omega), hs (b + 5) k (by omega)]; exact h6 k hk hk2
/-- flags of asks are flags -/
def RFlg (σ : am_H) : Prop := ∀ j : Nat, j < 30 → (σ 25 j = 0 ∨ σ 25 j = 1) ∧ (σ 38 j = 0 ∨ σ 38 j = 1)
theorem RFlg_of {σ σ' : am_H} (hs : ∀ c k : Nat, c = 25 ∨ c = 38 → σ' c k = σ c k) (h : RFlg σ) : RFlg σ' := fun j hj => by
  rw [hs 25 j (Or.inl rfl), hs 38 j (Or.inr rfl)]; exact h j hj
/-- the image -/
def RImg (σ τ : am_H) : Prop := (τ 63 30 = σ 0 11 ∧ (σ 0 11 = 0 ∨ σ 0 11 = 1)) ∧ (σ 0 11 = 1 → RDeb σ τ 29 31 79 ∧ RDia σ τ 35 29 32 33 80 81 82 83)
theorem RImg_of {σ τ σ' τ' : am_H} (hs : ∀ c k : Nat, (29 ≤ c ∧ c ≤ 41) ∨ (c = 0 ∧ k = 11) ∨ (c = 1 ∧ k = 2) → σ' c k = σ c k) (ht : ∀ c k : Nat, (79 ≤ c ∧ c ≤ 83) ∨ (c = 63 ∧ 30 ≤ k ∧ k ≤ 33) → τ' c k = τ c k) (h : RImg σ τ) : RImg σ' τ' := by
  unfold RImg
  rw [hs 0 11 (by decide), ht 63 30 (by decide)]
  exact ⟨h.1, fun h1 => ⟨RDeb_of (fun c k hc => hs c k (by omega)) (fun c k hc => ht c k (by omega)) (h.2 h1).1, RDia_of (fun c k hc => hs c k (by omega)) (fun c k hc => ht c k (by omega)) (h.2 h1).2⟩⟩
/-- bodies, the trace -/
def RBod (σ τ : am_H) : Prop := (τ 63 39 = σ 46 2 ∧ 0 ≤ σ 46 2 ∧ σ 46 2 ≤ 50) ∧ (∀ k : Nat, (k : Int) < σ 46 2 → τ 84 k = σ 47 k ∧ 0 ≤ σ 47 k ∧ σ 47 k ≤ 7) ∧ (τ 63 42 = σ 46 3 ∧ 0 ≤ σ 46 3 ∧ σ 46 3 ≤ 1000) ∧ ∀ k : Nat, (k : Int) < σ 46 3 → k < 24 → τ 85 k = σ 48 k
theorem RBod_of {σ τ σ' τ' : am_H} (hs : ∀ c k : Nat, c = 47 ∨ c = 48 ∨ (c = 46 ∧ (k = 2 ∨ k = 3)) → σ' c k = σ c k) (ht : ∀ c k : Nat, c = 84 ∨ c = 85 ∨ (c = 63 ∧ (k = 39 ∨ k = 42)) → τ' c k = τ c k) (h : RBod σ τ) : RBod σ' τ' := by
  unfold RBod
  rw [hs 46 2 (by decide), hs 46 3 (by decide), ht 63 39 (by decide), ht 63 42 (by decide)]
  refine ⟨h.1, fun k hk => ?_, h.2.2.1, fun k hk hk2 => ?_⟩
  · rw [hs 47 k (by omega), ht 84 k (by omega)]; exact h.2.1 k hk
  · rw [hs 48 k (by omega), ht 85 k (by omega)]; exact h.2.2.2 k hk hk2
/-- shelves -/
def RShe (σ τ : am_H) : Prop := ShV σ ∧ ∀ d : Nat, d < 6 → τ 86 d = (if 0 ≤ σ (51 + 2 * d) 2 then 50 + σ (51 + 2 * d) 2 else σ (51 + 2 * d) 1) ∧ τ 87 d = σ (51 + 2 * d) 3 ∧ ∀ j : Nat, (j : Int) < σ (51 + 2 * d) 3 → τ 88 (60 * d + j) = σ (52 + 2 * d) j
theorem RShe_of {σ τ σ' τ' : am_H} (hs : ∀ c k : Nat, (51 ≤ c ∧ c ≤ 62) ∨ (c = 46 ∧ k = 2) → σ' c k = σ c k) (ht : ∀ c k : Nat, c = 86 ∨ c = 87 ∨ c = 88 → τ' c k = τ c k) (h : RShe σ τ) : RShe σ' τ' := by
  refine ⟨fun d hd => ?_, fun d hd => ?_⟩
  · have h1 := h.1 d hd
    rw [hs (51 + 2 * d) 1 (by omega), hs (51 + 2 * d) 2 (by omega), hs (51 + 2 * d) 3 (by omega), hs 46 2 (by omega)]
    refine ⟨h1.1, h1.2.1, h1.2.2.1, h1.2.2.2.1, h1.2.2.2.2.1, fun j hj => ?_⟩
    rw [hs (52 + 2 * d) j (by omega)]; exact h1.2.2.2.2.2 j hj
  · rw [hs (51 + 2 * d) 1 (by omega), hs (51 + 2 * d) 2 (by omega), hs (51 + 2 * d) 3 (by omega), ht 86 d (by omega), ht 87 d (by omega)]
    refine ⟨(h.2 d hd).1, (h.2 d hd).2.1, fun j hj => ?_⟩
    rw [hs (52 + 2 * d) j (by omega), ht 88 _ (by omega)]; exact (h.2 d hd).2.2 j hj
def RWip (σ : am_H) : Prop := σ 44 0 = 0 ∧ σ 45 0 = 0
def RR (σ τ : am_H) : Prop := RSet σ τ ∧ RChg σ τ ∧ RLaw σ τ ∧ RDeb σ τ 16 7 68 ∧ RDia σ τ 22 16 20 9 72 73 74 75 ∧ RFlg σ ∧ RImg σ τ ∧ RBod σ τ ∧ RShe σ τ ∧ RWip σ
/-- only scratch cells changed -/
theorem RR_of {σ τ σ' τ' : am_H} (hs : ∀ c k : Nat, c < 63 → c ≠ 9 ∨ (k = 6 ∨ k = 7) → (c ≤ 11 ∨ (16 ≤ c ∧ c ≠ 50 ∧ c ≠ 43)) → c ≠ 46 ∨ k ≠ 4 → (c ≠ 44 ∧ c ≠ 45) ∨ k = 0 → σ' c k = σ c k) (ht : ∀ c k : Nat, 63 ≤ c → c ≠ 71 → c ≠ 76 → c ≠ 77 → c ≠ 78 → c ≠ 89 → (c ≠ 63 ∨ k < 14 ∨ (18 < k ∧ k ≠ 25 ∧ k ≠ 27 ∧ k ≠ 43 ∧ k ≠ 44)) → τ' c k = τ c k) (h : RR σ τ) : RR σ' τ' := by
  obtain ⟨h1, h2, h3, h4, h5, h6, h7, h8, h9, h10⟩ := h
  refine ⟨RSet_of (fun c k hc => hs c k (by omega) (by omega) (by omega) (by omega) (by omega)) (fun c k hc => ht c k (by omega) (by omega) (by omega) (by omega) (by omega) (by omega) (by omega)) h1,
    RChg_of (fun c k hc => hs c k (by omega) (by omega) (by omega) (by omega) (by omega)) (fun c k hc => ht c k (by omega) (by omega) (by omega) (by omega) (by omega) (by omega) (by omega)) h2,
    RLaw_of (fun c k hc => hs c k (by omega) (by omega) (by omega) (by omega) (by omega)) (fun c k hc => ht c k (by omega) (by omega) (by omega) (by omega) (by omega) (by omega) (by omega)) h3,
    RDeb_of (fun c k hc => hs c k (by omega) (by omega) (by omega) (by omega) (by omega)) (fun c k hc => ht c k (by omega) (by omega) (by omega) (by omega) (by omega) (by omega) (by omega)) h4,
    RDia_of (fun c k hc => hs c k (by omega) (by omega) (by omega) (by omega) (by omega)) (fun c k hc => ht c k (by omega) (by omega) (by omega) (by omega) (by omega) (by omega) (by omega)) h5,
    RFlg_of (fun c k hc => hs c k (by omega) (by omega) (by omega) (by omega) (by omega)) h6,
    RImg_of (fun c k hc => hs c k (by omega) (by omega) (by omega) (by omega) (by omega)) (fun c k hc => ht c k (by omega) (by omega) (by omega) (by omega) (by omega) (by omega) (by omega)) h7,
    RBod_of (fun c k hc => hs c k (by omega) (by omega) (by omega) (by omega) (by omega)) (fun c k hc => ht c k (by omega) (by omega) (by omega) (by omega) (by omega) (by omega) (by omega)) h8,
    RShe_of (fun c k hc => hs c k (by omega) (by omega) (by omega) (by omega) (by omega)) (fun c k hc => ht c k (by omega) (by omega) (by omega) (by omega) (by omega) (by omega) (by omega)) h9, ?_⟩
  unfold RWip at *
  rw [hs 44 0 (by decide) (by decide) (by decide) (by decide) (by decide), hs 45 0 (by decide) (by decide) (by decide) (by decide) (by decide)]
  exact h10
