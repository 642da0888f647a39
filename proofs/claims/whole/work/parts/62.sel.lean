/-! who has whom; a day goes -/
def as_sel (P : Nat → Bool) (V : Nat → Int) (n : Nat) : Int × Int := am_it (fun k (s : Int × Int) => if P k = true then (if s.1 < 0 ∨ s.2 < V k then ((k : Int), V k) else s) else s) n (-1, 0)
theorem as_sel_s (P : Nat → Bool) (V : Nat → Int) (n : Nat) : as_sel P V (n + 1) = if P n = true then (if (as_sel P V n).1 < 0 ∨ (as_sel P V n).2 < V n then ((n : Int), V n) else as_sel P V n) else as_sel P V n := rfl
theorem as_sel_bd (P : Nat → Bool) (V : Nat → Int) : ∀ n : Nat, -1 ≤ (as_sel P V n).1 ∧ (as_sel P V n).1 < n ∧ ((0 ≤ (as_sel P V n).1) → P (as_sel P V n).1.toNat = true ∧ (as_sel P V n).2 = V (as_sel P V n).1.toNat) ∧ ((as_sel P V n).1 < 0 → (as_sel P V n).2 = 0)
  | 0 => ⟨show (-1 : Int) ≤ -1 by decide, show (-1 : Int) < ((0 : Nat) : Int) by decide, fun h => absurd (show (0 : Int) ≤ -1 from h) (by decide), fun _ => rfl⟩
  | n + 1 => by
    obtain ⟨i1, i2, i3, i4⟩ := as_sel_bd P V n
    rw [as_sel_s]
    by_cases hp : P n = true
    · rw [if_pos hp]
      by_cases hq : (as_sel P V n).1 < 0 ∨ (as_sel P V n).2 < V n
      · rw [if_pos hq]
        exact ⟨by show -1 ≤ (n : Int); omega, by show (n : Int) < ((n + 1 : Nat) : Int); omega, fun _ => ⟨hp, rfl⟩, fun h => by have h : (n : Int) < 0 := h; omega⟩
      · rw [if_neg hq]; exact ⟨i1, by omega, i3, i4⟩
    · rw [if_neg hp]; exact ⟨i1, by omega, i3, i4⟩
theorem as_sel_congr {P P' : Nat → Bool} {V V' : Nat → Int} : ∀ n : Nat, (∀ k, k < n → P k = P' k ∧ (P k = true → V k = V' k)) → as_sel P V n = as_sel P' V' n
  | 0, _ => rfl
  | n + 1, h => by
    rw [as_sel_s, as_sel_s, as_sel_congr n (fun k hk => h k (by omega)), (h n (Nat.lt_succ_self n)).1]
    by_cases hp : P' n = true
    · rw [if_pos hp, if_pos hp, (h n (Nat.lt_succ_self n)).2 (by rw [(h n (Nat.lt_succ_self n)).1]; exact hp)]
    · rw [if_neg hp, if_neg hp]
/-- the class's -/
def c_merit (σ : am_H) (n : Nat) (day : Int) : Int := if σ 1 3 = 1 then c_owed σ (σ 17 n) (σ 18 n) else if σ 1 3 = 2 then c_wv σ (σ 17 n) (σ 18 n) day else 0
def c_P (σ : am_H) (p day : Int) (k : Nat) : Bool := decide (σ 24 k = day ∧ σ 25 k = 0 ∧ (σ 23 k < σ 16 5 ∧ 0 < σ 19 (σ 23 k).toNat) ∧ σ 17 (σ 23 k).toNat = p)
def c_V (σ : am_H) (day : Int) (k : Nat) : Int := c_merit σ (σ 23 k).toNat day
def c_sel (σ : am_H) (p day : Int) (n : Nat) : Int × Int := as_sel (c_P σ p day) (c_V σ day) n
def c_of1 (σ : am_H) (a : Int) : Int := if a < 0 then -2 else σ 23 a.toNat
/-- what holds of the debts and asks -/
def DebV (σ : am_H) : Prop := ∀ n : Nat, (n : Int) < σ 16 5 → (0 ≤ σ 17 n ∧ σ 17 n < σ 1 2) ∧ (0 ≤ σ 18 n ∧ σ 18 n < σ 1 2) ∧ (0 ≤ σ 20 n ∧ σ 20 n ≤ 12)
def AskV (σ : am_H) : Prop := ∀ k : Nat, (k : Int) < σ 22 6 → 0 ≤ σ 23 k ∧ σ 23 k < σ 16 5
def SkiV (σ : am_H) : Prop := (∀ k, k < 12 → 1 ≤ σ 2 k ∧ σ 2 k ≤ 9) ∧ ∀ k : Nat, (k : Int) < σ 1 2 → 1 ≤ σ 3 k ∧ σ 3 k ≤ 9
theorem c_owed_fr {σ τ : am_H} (h : c_fr σ τ) (p q : Int) : c_owed τ p q = c_owed σ p q := by
  unfold c_owed
  rw [h 16 5 (by decide) (by decide)]
  exact am_sum_congr _ (fun k _ => by rw [h 17 k (by decide) (by decide), h 18 k (by decide) (by decide), h 19 k (by decide) (by decide)])
theorem c_merit_fr {σ τ : am_H} (h : c_fr σ τ) (n : Nat) (d : Int) : c_merit τ n d = c_merit σ n d := by
  unfold c_merit
  rw [c_owed_fr h, c_wv_fr h, h 1 3 (by decide) (by decide), h 17 n (by decide) (by decide), h 18 n (by decide) (by decide)]
theorem c_sel_fr {σ τ : am_H} (h : c_fr σ τ) (p d : Int) (n : Nat) : c_sel τ p d n = c_sel σ p d n := by
  refine as_sel_congr n (fun k _ => ⟨?_, fun _ => ?_⟩)
  · unfold c_P
    rw [h 24 k (by decide) (by decide), h 25 k (by decide) (by decide), h 23 k (by decide) (by decide), h 16 5 (by decide) (by decide), h 19 _ (by decide) (by decide), h 17 _ (by decide) (by decide)]
  · unfold c_V
    rw [c_merit_fr h, h 23 k (by decide) (by decide)]
/-- the reference's -/
def md_wei (σ : am_H) (n : Nat) (day : Int) : Int := if σ 64 20 = 0 then 0 else if σ 64 20 = 1 then md_owed σ (σ 68 (5 * n)) (σ 68 (5 * n + 1)) else md_wv σ (σ 68 (5 * n)) (σ 68 (5 * n + 1)) day
def md_P (σ : am_H) (p day : Int) (k : Nat) : Bool := decide (σ 72 (3 * k + 1) = day ∧ σ 72 (3 * k + 2) = 0 ∧ 0 < σ 68 (5 * (σ 72 (3 * k)).toNat + 2) ∧ σ 68 (5 * (σ 72 (3 * k)).toNat) = p)
def md_V (σ : am_H) (k : Nat) : Int := md_wei σ (σ 72 (3 * k)).toNat (σ 72 (3 * k + 1))
def md_sel (σ : am_H) (p day : Int) (n : Nat) : Int × Int := as_sel (md_P σ p day) (md_V σ) n
def MdeV (σ : am_H) : Prop := ∀ n : Nat, (n : Int) < σ 63 7 → (0 ≤ σ 68 (5 * n) ∧ σ 68 (5 * n) < σ 63 6) ∧ (0 ≤ σ 68 (5 * n + 1) ∧ σ 68 (5 * n + 1) < σ 63 6) ∧ (0 ≤ σ 68 (5 * n + 3) ∧ σ 68 (5 * n + 3) ≤ 12)
def MasV (σ : am_H) : Prop := ∀ k : Nat, (k : Int) < σ 63 20 → (0 ≤ σ 72 (3 * k) ∧ σ 72 (3 * k) < σ 63 7) ∧ (0 ≤ σ 72 (3 * k + 1) ∧ σ 72 (3 * k + 1) ≤ 47)
def MskV (σ : am_H) : Prop := (∀ k, k < 12 → 1 ≤ σ 64 k ∧ σ 64 k ≤ 9) ∧ ∀ k : Nat, (k : Int) < σ 63 6 → 1 ≤ σ 64 (12 + k) ∧ σ 64 (12 + k) ≤ 9
theorem md_owed_fr {σ τ : am_H} (h : md_fr σ τ) (p q : Int) : md_owed τ p q = md_owed σ p q := by
  unfold md_owed
  rw [h 63 7 (by decide) (by decide)]
  exact am_sum_congr _ (fun k _ => by rw [h 68 _ (by decide) (Or.inl (by decide)), h 68 _ (by decide) (Or.inl (by decide)), h 68 _ (by decide) (Or.inl (by decide))])
theorem md_wei_fr {σ τ : am_H} (h : md_fr σ τ) (n : Nat) (d : Int) : md_wei τ n d = md_wei σ n d := by
  unfold md_wei
  rw [md_owed_fr h, md_wv_fr h, h 64 20 (by decide) (Or.inl (by decide)), h 68 _ (by decide) (Or.inl (by decide)), h 68 _ (by decide) (Or.inl (by decide))]
theorem md_sel_fr {σ τ : am_H} (h : md_fr σ τ) (p d : Int) (n : Nat) : md_sel τ p d n = md_sel σ p d n := by
  refine as_sel_congr n (fun k _ => ⟨?_, fun _ => ?_⟩)
  · unfold md_P
    rw [h 72 _ (by decide) (Or.inl (by decide)), h 72 _ (by decide) (Or.inl (by decide)), h 72 _ (by decide) (Or.inl (by decide)), h 68 _ (by decide) (Or.inl (by decide)), h 68 _ (by decide) (Or.inl (by decide))]
  · unfold md_V
    rw [md_wei_fr h, h 72 _ (by decide) (Or.inl (by decide)), h 72 _ (by decide) (Or.inl (by decide))]
theorem c_day_fr {σ τ : am_H} (h : c_fr σ τ) (hd : ∀ n : Nat, (n : Int) < σ 16 5 → 0 ≤ σ 19 n ∧ σ 19 n ≤ 9) : ∀ n : Nat, (n : Int) < τ 16 5 → 0 ≤ τ 19 n ∧ τ 19 n ≤ 9 := fun n hn => by
  rw [h 16 5 (by decide) (by decide)] at hn
  rw [h 19 n (by decide) (by decide)]
  exact hd n hn
theorem c_ski_fr {σ τ : am_H} (h : c_fr σ τ) (hs : SkiV σ) : SkiV τ := ⟨fun k hk => by rw [h 2 k (by decide) (by decide)]; exact hs.1 k hk, fun k hk => by rw [h 1 2 (by decide) (by decide)] at hk; rw [h 3 k (by decide) (by decide)]; exact hs.2 k hk⟩
theorem c_deb_fr {σ τ : am_H} (h : c_fr σ τ) (hs : DebV σ) : DebV τ := fun n hn => by
  rw [h 16 5 (by decide) (by decide)] at hn
  rw [h 17 n (by decide) (by decide), h 18 n (by decide) (by decide), h 20 n (by decide) (by decide), h 1 2 (by decide) (by decide)]
  exact hs n hn
theorem md_day_fr {σ τ : am_H} (h : md_fr σ τ) (hd : ∀ n : Nat, (n : Int) < σ 63 7 → 0 ≤ σ 68 (5 * n + 2) ∧ σ 68 (5 * n + 2) ≤ 9) : ∀ n : Nat, (n : Int) < τ 63 7 → 0 ≤ τ 68 (5 * n + 2) ∧ τ 68 (5 * n + 2) ≤ 9 := fun n hn => by
  rw [h 63 7 (by decide) (by decide)] at hn
  rw [h 68 _ (by decide) (Or.inl (by decide))]
  exact hd n hn
theorem md_ski_fr {σ τ : am_H} (h : md_fr σ τ) (hs : MskV σ) : MskV τ := ⟨fun k hk => by rw [h 64 k (by decide) (Or.inl (by decide))]; exact hs.1 k hk, fun k hk => by rw [h 63 6 (by decide) (by decide)] at hk; rw [h 64 _ (by decide) (Or.inl (by decide))]; exact hs.2 k hk⟩
theorem md_deb_fr {σ τ : am_H} (h : md_fr σ τ) (hs : MdeV σ) : MdeV τ := fun n hn => by
  rw [h 63 7 (by decide) (by decide)] at hn
  rw [h 68 _ (by decide) (Or.inl (by decide)), h 68 _ (by decide) (Or.inl (by decide)), h 68 _ (by decide) (Or.inl (by decide)), h 63 6 (by decide) (by decide)]
  exact hs n hn
theorem md_ask_fr {σ τ : am_H} (h : md_fr σ τ) (hs : MasV σ) : MasV τ := fun k hk => by
  rw [h 63 20 (by decide) (by decide)] at hk
  rw [h 72 _ (by decide) (Or.inl (by decide)), h 72 _ (by decide) (Or.inl (by decide)), h 63 7 (by decide) (by decide)]
  exact hs k hk
theorem c_ask_fr {σ τ : am_H} (h : c_fr σ τ) (hs : AskV σ) : AskV τ := fun k hk => by
  rw [h 22 6 (by decide) (by decide)] at hk
  rw [h 23 k (by decide) (by decide), h 16 5 (by decide) (by decide)]
  exact hs k hk
/-- the best day by a worth -/
def bs_f (W : Int → Int) (d0 : Int) (n : Nat) : Int × Int := am_it (fun k (s : Int × Int) => if ¬ (d0 + (k : Int)) % 4 = 3 ∧ s.2 < W (d0 + (k : Int)) then (d0 + (k : Int), W (d0 + (k : Int))) else s) n (-2, -2)
theorem bs_f_s (W : Int → Int) (d0 : Int) (n : Nat) : bs_f W d0 (n + 1) = if ¬ (d0 + (n : Int)) % 4 = 3 ∧ (bs_f W d0 n).2 < W (d0 + (n : Int)) then (d0 + (n : Int), W (d0 + (n : Int))) else bs_f W d0 n := rfl
theorem bs_f_bd {W : Int → Int} {d0 : Int} : ∀ n : Nat, -2 ≤ (bs_f W d0 n).2
  | 0 => show (-2 : Int) ≤ -2 by decide
  | n + 1 => by
    have ih := bs_f_bd (W := W) (d0 := d0) n
    rw [bs_f_s]
    split
    · show -2 ≤ W (d0 + (n : Int)); omega
    · exact ih
theorem bs_f_congr {W W' : Int → Int} {d0 : Int} : ∀ n : Nat, (∀ k : Nat, k < n → W (d0 + (k : Int)) = W' (d0 + (k : Int))) → bs_f W d0 n = bs_f W' d0 n
  | 0, _ => rfl
  | n + 1, h => by rw [bs_f_s, bs_f_s, bs_f_congr n (fun k hk => h k (by omega)), h n (Nat.lt_succ_self n)]
