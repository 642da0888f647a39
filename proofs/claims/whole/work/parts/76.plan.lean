/-! the best days of a plan -/
def pl_GE (W : Int → Int) (d0 : Int) (M : Nat) (v : Int) : Int := am_sum (fun m : Nat => if ¬ (d0 + (m : Int)) % 4 = 3 ∧ v ≤ W (d0 + (m : Int)) then 1 else 0) M
def pl_mn (n g : Int) : Int := if n ≤ g then n else g
def pl_T (W : Int → Int) (d0 : Int) (M : Nat) (n : Int) : Int := am_sum (fun i : Nat => pl_mn n (pl_GE W d0 M ((i : Int) + 1))) 99
def pl_ct (W : Int → Int) (d0 : Int) (m : Nat) (v : Int) : Int := am_sum (fun m : Nat => if ¬ (d0 + (m : Int)) % 4 = 3 ∧ W (d0 + (m : Int)) = v then 1 else 0) m
theorem am_sum_add {f g h : Nat → Int} : ∀ n : Nat, (∀ k, k < n → f k = g k + h k) → am_sum f n = am_sum g n + am_sum h n
  | 0, _ => rfl
  | n + 1, e => by
    show am_sum f n + f n = am_sum g n + g n + (am_sum h n + h n)
    rw [am_sum_add n (fun k hk => e k (by omega)), e n (Nat.lt_succ_self n)]; omega
theorem pl_GE_s (W : Int → Int) (d0 : Int) (M : Nat) (v : Int) : pl_GE W d0 M v = pl_GE W d0 M (v + 1) + pl_ct W d0 M v :=
  am_sum_add M (fun k _ => by
    by_cases h : (d0 + (k : Int)) % 4 = 3
    · rw [if_neg (fun q => q.1 h), if_neg (fun q => q.1 h), if_neg (fun q => q.1 h)]; rfl
    · by_cases h1 : v + 1 ≤ W (d0 + (k : Int))
      · rw [if_pos ⟨h, by omega⟩, if_pos ⟨h, h1⟩, if_neg (fun q => by omega)]; rfl
      · by_cases h2 : W (d0 + (k : Int)) = v
        · rw [if_pos ⟨h, by omega⟩, if_neg (fun q => h1 q.2), if_pos ⟨h, h2⟩]; rfl
        · rw [if_neg (fun q => by omega), if_neg (fun q => h1 q.2), if_neg (fun q => h2 q.2)]; rfl)
theorem pl_GE_bd (W : Int → Int) (d0 : Int) (M : Nat) (v : Int) : 0 ≤ pl_GE W d0 M v ∧ pl_GE W d0 M v ≤ M := am_sum_1 (fun k _ => by split <;> omega)
theorem pl_ct_bd (W : Int → Int) (d0 : Int) (M : Nat) (v : Int) : 0 ≤ pl_ct W d0 M v ∧ pl_ct W d0 M v ≤ M := am_sum_1 (fun k _ => by split <;> omega)
theorem pl_GE_100 {W : Int → Int} {d0 : Int} : ∀ M : Nat, (∀ d, W d ≤ 99) → pl_GE W d0 M 100 = 0
  | 0, _ => rfl
  | M + 1, h => by
    show pl_GE W d0 M 100 + (if ¬ (d0 + (M : Int)) % 4 = 3 ∧ 100 ≤ W (d0 + (M : Int)) then 1 else 0) = 0
    rw [pl_GE_100 M h, if_neg (fun q => by have := h (d0 + (M : Int)); omega)]; rfl
/-- what the worths above w give: the part of pl_T from w on -/
def pl_up (W : Int → Int) (d0 : Int) (M : Nat) (n : Int) (w : Nat) : Int := pl_T W d0 M n - am_sum (fun i : Nat => pl_mn n (pl_GE W d0 M ((i : Int) + 1))) w
theorem pl_up_99 (W : Int → Int) (d0 : Int) (M : Nat) (n : Int) : pl_up W d0 M n 99 = 0 := by
  unfold pl_up pl_T; omega
theorem pl_up_0 (W : Int → Int) (d0 : Int) (M : Nat) (n : Int) : pl_up W d0 M n 0 = pl_T W d0 M n := by
  unfold pl_up; show _ - 0 = _; omega
theorem pl_up_s (W : Int → Int) (d0 : Int) (M : Nat) (n : Int) (w : Nat) : pl_up W d0 M n w = pl_up W d0 M n (w + 1) + pl_mn n (pl_GE W d0 M ((w : Int) + 1)) := by
  unfold pl_up
  show _ = pl_T W d0 M n - (am_sum _ w + pl_mn n (pl_GE W d0 M ((w : Int) + 1))) + _
  omega
theorem pl_step {W : Int → Int} {d0 : Int} {M w : Nat} {n left sum tk : Int} (hn : 0 ≤ n) (hl : left = n - pl_mn n (pl_GE W d0 M ((w : Int) + 2))) (hs : sum = pl_up W d0 M n (w + 1) + ((w : Int) + 1) * pl_mn n (pl_GE W d0 M ((w : Int) + 2))) (ht : tk = pl_mn left (pl_ct W d0 M ((w : Int) + 1))) : left - tk = n - pl_mn n (pl_GE W d0 M ((w : Int) + 1)) ∧ sum + tk * ((w : Int) + 1) = pl_up W d0 M n w + (w : Int) * pl_mn n (pl_GE W d0 M ((w : Int) + 1)) := by
  have h1 := pl_GE_s W d0 M ((w : Int) + 1)
  rw [show (w : Int) + 1 + 1 = (w : Int) + 2 by omega] at h1
  have hb := pl_GE_bd W d0 M ((w : Int) + 2)
  have hc := pl_ct_bd W d0 M ((w : Int) + 1)
  have hu := pl_up_s W d0 M n w
  generalize pl_GE W d0 M ((w : Int) + 2) = g2 at *
  generalize pl_GE W d0 M ((w : Int) + 1) = g1 at *
  generalize pl_ct W d0 M ((w : Int) + 1) = c1 at *
  have hB : pl_mn n g1 = pl_mn n g2 + tk := by
    rw [ht, hl]; unfold pl_mn; (repeat' split) <;> omega
  refine ⟨by omega, ?_⟩
  rw [hs, hu, hB]
  generalize pl_mn n g2 = A
  rw [Int.add_mul, Int.mul_add, Int.one_mul, Int.mul_add, Int.mul_one, Int.mul_comm tk]
  omega
/-- what is left to take: days that are not taken -/
def pl_GU (W : Int → Int) (τ : am_H) (d0 : Nat) (M : Nat) (v : Int) : Int := am_sum (fun m : Nat => if τ 76 (d0 + m) = 0 ∧ v ≤ W ((d0 + m : Nat) : Int) then 1 else 0) M
def pl_TU (W : Int → Int) (τ : am_H) (d0 M : Nat) (n : Int) : Int := am_sum (fun i : Nat => pl_mn n (pl_GU W τ d0 M ((i : Int) + 1))) 99
theorem pl_GU_bd (W : Int → Int) (τ : am_H) (d0 M : Nat) (v : Int) : 0 ≤ pl_GU W τ d0 M v ∧ pl_GU W τ d0 M v ≤ M := am_sum_1 (fun k _ => by split <;> omega)
theorem pl_GU_0 {W : Int → Int} {τ : am_H} {d0 : Nat} {v : Int} : ∀ M : Nat, (∀ m, m < M → τ 76 (d0 + m) = 0 → W ((d0 + m : Nat) : Int) < v) → pl_GU W τ d0 M v = 0
  | 0, _ => rfl
  | M + 1, h => by
    show pl_GU W τ d0 M v + (if τ 76 (d0 + M) = 0 ∧ v ≤ W ((d0 + M : Nat) : Int) then 1 else 0) = 0
    rw [pl_GU_0 M (fun m hm => h m (by omega)), if_neg (fun q => by have := h M (Nat.lt_succ_self M) q.1; omega)]; rfl
theorem pl_GU_up {W : Int → Int} {τ : am_H} {d0 b : Nat} {v : Int} (hb : τ 76 (d0 + b) = 0) : ∀ M : Nat, pl_GU W τ d0 M v = pl_GU W (am_up τ 76 (d0 + b) 1) d0 M v + (if b < M ∧ v ≤ W ((d0 + b : Nat) : Int) then 1 else 0)
  | 0 => by rw [if_neg (fun q => Nat.not_lt_zero _ q.1)]; rfl
  | M + 1 => by
    have ih := pl_GU_up (W := W) (v := v) hb M
    show pl_GU W τ d0 M v + (if τ 76 (d0 + M) = 0 ∧ v ≤ W ((d0 + M : Nat) : Int) then 1 else 0) = pl_GU W (am_up τ 76 (d0 + b) 1) d0 M v + (if am_up τ 76 (d0 + b) 1 76 (d0 + M) = 0 ∧ v ≤ W ((d0 + M : Nat) : Int) then 1 else 0) + _
    rw [ih]
    by_cases e : M = b
    · subst e
      rw [am_up_eq, if_neg (fun q => Nat.lt_irrefl M q.1), if_neg (show ¬ ((1 : Int) = 0 ∧ v ≤ W ((d0 + M : Nat) : Int)) from fun q => by omega)]
      by_cases h : v ≤ W ((d0 + M : Nat) : Int)
      · rw [if_pos ⟨hb, h⟩, if_pos ⟨Nat.lt_succ_self M, h⟩] <;> omega
      · rw [if_neg (fun q => h q.2), if_neg (fun q => h q.2)] <;> omega
    · rw [am_up_k (by omega)]
      have he : (b < M + 1 ∧ v ≤ W ((d0 + b : Nat) : Int)) ↔ (b < M ∧ v ≤ W ((d0 + b : Nat) : Int)) := by omega
      simp only [he]
      omega
theorem pl_cnt {m : Int} : ∀ n : Nat, 0 ≤ m → am_sum (fun i : Nat => if (i : Int) + 1 ≤ m then (1 : Int) else 0) n = pl_mn m (n : Int)
  | 0, h => by
    unfold pl_mn
    show (0 : Int) = if m ≤ 0 then m else 0
    split <;> omega
  | n + 1, h => by
    show am_sum _ n + (if (n : Int) + 1 ≤ m then 1 else 0) = pl_mn m ((n + 1 : Nat) : Int)
    rw [pl_cnt n h]
    unfold pl_mn
    (repeat' split) <;> omega
/-- one more best day is taken -/
theorem pl_TU_up {W : Int → Int} {τ : am_H} {d0 M b : Nat} {n : Int} (hn : 1 ≤ n) (hW : ∀ d, 0 ≤ W d ∧ W d ≤ 99) (hbM : b < M) (hb : τ 76 (d0 + b) = 0) (hmax : ∀ m, m < M → τ 76 (d0 + m) = 0 → W ((d0 + m : Nat) : Int) ≤ W ((d0 + b : Nat) : Int)) : pl_TU W τ d0 M n = pl_TU W (am_up τ 76 (d0 + b) 1) d0 M (n - 1) + W ((d0 + b : Nat) : Int) := by
  have hw := hW ((d0 + b : Nat) : Int)
  have h1 : W ((d0 + b : Nat) : Int) = am_sum (fun i : Nat => if (i : Int) + 1 ≤ W ((d0 + b : Nat) : Int) then (1 : Int) else 0) 99 := by
    rw [pl_cnt 99 hw.1]; unfold pl_mn; split <;> omega
  conv => rhs; rw [h1]
  refine am_sum_add 99 (fun i _ => ?_)
  have hg := pl_GU_up (W := W) (v := (i : Int) + 1) hb M
  have hbd := pl_GU_bd W (am_up τ 76 (d0 + b) 1) d0 M ((i : Int) + 1)
  by_cases h : (i : Int) + 1 ≤ W ((d0 + b : Nat) : Int)
  · rw [if_pos ⟨hbM, h⟩] at hg
    rw [if_pos h, hg]; unfold pl_mn; (repeat' split) <;> omega
  · rw [if_neg (fun q => h q.2)] at hg
    have h0 := pl_GU_0 (W := W) (τ := τ) (d0 := d0) (v := (i : Int) + 1) M (fun m hm hz => by have := hmax m hm hz; omega)
    rw [if_neg h, hg, show pl_GU W (am_up τ 76 (d0 + b) 1) d0 M ((i : Int) + 1) = 0 by omega]; unfold pl_mn; (repeat' split) <;> omega
theorem pl_TU_no {W : Int → Int} {τ : am_H} {d0 M : Nat} {n : Int} (hn : 0 ≤ n) (h : ∀ m, m < M → τ 76 (d0 + m) ≠ 0) : pl_TU W τ d0 M n = 0 := by
  have hz : ∀ i : Nat, pl_mn n (pl_GU W τ d0 M ((i : Int) + 1)) = 0 := fun i => by
    rw [pl_GU_0 M (fun m hm hq => absurd hq (h m hm))]; unfold pl_mn; split <;> omega
  unfold pl_TU
  have : ∀ k, am_sum (fun i : Nat => pl_mn n (pl_GU W τ d0 M ((i : Int) + 1))) k = 0 := fun k => by
    induction k with
    | zero => rfl
    | succ k ih => show am_sum _ k + pl_mn n (pl_GU W τ d0 M ((k : Int) + 1)) = 0; rw [ih, hz k]; rfl
  exact this 99
theorem pl_TU_z {W : Int → Int} {τ : am_H} {d0 M : Nat} : pl_TU W τ d0 M 0 = 0 := by
  unfold pl_TU
  have : ∀ k, am_sum (fun i : Nat => pl_mn 0 (pl_GU W τ d0 M ((i : Int) + 1))) k = 0 := fun k => by
    induction k with
    | zero => rfl
    | succ k ih =>
      have := pl_GU_bd W τ d0 M ((k : Int) + 1)
      show am_sum _ k + pl_mn 0 _ = 0
      rw [ih]; unfold pl_mn; rw [if_pos (by omega)]; rfl
  exact this 99
theorem pl_T_z {W : Int → Int} {d0 : Int} {M : Nat} : pl_T W d0 M 0 = 0 := by
  unfold pl_T
  have : ∀ k, am_sum (fun i : Nat => pl_mn 0 (pl_GE W d0 M ((i : Int) + 1))) k = 0 := fun k => by
    induction k with
    | zero => rfl
    | succ k ih =>
      have := pl_GE_bd W d0 M ((k : Int) + 1)
      show am_sum _ k + pl_mn 0 _ = 0
      rw [ih]; unfold pl_mn; rw [if_pos (by omega)]; rfl
  exact this 99
theorem pl_TU_T {W : Int → Int} {τ : am_H} {d0 M : Nat} {n : Int} (h : ∀ m, m < M → (τ 76 (d0 + m) = 0 ↔ ¬ ((d0 + m : Nat) : Int) % 4 = 3)) : pl_TU W τ d0 M n = pl_T W (d0 : Int) M n := by
  refine am_sum_congr 99 (fun i _ => ?_)
  congr 1
  refine am_sum_congr M (fun m hm => ?_)
  have hm := h m hm
  rw [show ((d0 + m : Nat) : Int) = (d0 : Int) + (m : Int) by omega] at hm ⊢
  simp only [hm]
theorem pl_T_bd {W : Int → Int} {d0 : Int} {M : Nat} {n : Int} (hn : 0 ≤ n) (hM : M ≤ 48) : 0 ≤ pl_T W d0 M n ∧ pl_T W d0 M n ≤ 4752 := by
  have h := am_sum_bd (f := fun i : Nat => pl_mn n (pl_GE W d0 M ((i : Int) + 1))) (m := 48) 99 (fun k _ => by
    have := pl_GE_bd W d0 M ((k : Int) + 1)
    show 0 ≤ pl_mn n _ ∧ pl_mn n _ ≤ 48
    unfold pl_mn; split <;> omega)
  unfold pl_T
  omega
theorem pl_T_congr {W W' : Int → Int} {d0 : Int} {M : Nat} {n : Int} (h : ∀ m : Nat, m < M → W (d0 + (m : Int)) = W' (d0 + (m : Int))) : pl_T W d0 M n = pl_T W' d0 M n := by
  refine am_sum_congr 99 (fun i _ => ?_)
  congr 1
  exact am_sum_congr M (fun m hm => by rw [h m hm])
/-! the class's count of days by worth -/
def c_wz (σ : am_H) (n : Nat) : am_H := fun c k => if c = 50 ∧ k < n then 0 else σ c k
theorem c_wz_0 (σ : am_H) : c_wz σ 0 = σ := by
  funext c k; unfold c_wz; rw [if_neg (by omega)]
theorem c_wz_at {σ : am_H} {n c k : Nat} (h : c ≠ 50) : c_wz σ n c k = σ c k := by
  unfold c_wz; rw [if_neg (by omega)]
theorem c_wz_s {σ : am_H} {n : Nat} : am_up (c_wz σ n) 50 n 0 = c_wz σ (n + 1) := by
  funext c k
  unfold am_up c_wz
  by_cases h1 : c = 50 ∧ k = n
  · rw [if_pos h1, if_pos (by omega)]
  · rw [if_neg h1]
    by_cases h2 : c = 50 ∧ k < n
    · rw [if_pos h2, if_pos (show c = 50 ∧ k < n + 1 by omega)]
    · rw [if_neg h2, if_neg (show ¬ (c = 50 ∧ k < n + 1) by omega)]
abbrev c_frp (σ τ : am_H) : Prop := ∀ c k : Nat, c ≠ 14 → c ≠ 15 → c ≠ 50 → τ c k = σ c k
theorem c_frp_lw {σ τ : am_H} (h : c_frp σ τ) : c_lw τ = c_lw σ := by
  have h7 : τ 9 7 = σ 9 7 := h 9 7 (by decide) (by decide) (by decide)
  have hr : rcl τ 11 (σ 9 7).toNat = rcl σ 11 (σ 9 7).toNat := rcl_congr _ (fun k _ => h 11 k (by decide) (by decide) (by decide))
  unfold c_lw
  rw [h7, hr]
theorem c_frp_wv {σ τ : am_H} (h : c_frp σ τ) (p q d : Int) : c_wv τ p q d = c_wv σ p q d := by
  unfold c_wv
  rw [c_frp_lw h, h 2 _ (by decide) (by decide) (by decide), h 3 _ (by decide) (by decide) (by decide)]
theorem c_owed_frp {σ τ : am_H} (h : c_frp σ τ) (p q : Int) : c_owed τ p q = c_owed σ p q := by
  unfold c_owed
  rw [h 16 5 (by decide) (by decide) (by decide)]
  exact am_sum_congr _ (fun k _ => by rw [h 17 k (by decide) (by decide) (by decide), h 18 k (by decide) (by decide) (by decide), h 19 k (by decide) (by decide) (by decide)])
theorem c_ski_frp {σ τ : am_H} (h : c_frp σ τ) (hs : SkiV σ) : SkiV τ := ⟨fun k hk => by rw [h 2 k (by decide) (by decide) (by decide)]; exact hs.1 k hk, fun k hk => by rw [h 1 2 (by decide) (by decide) (by decide)] at hk; rw [h 3 k (by decide) (by decide) (by decide)]; exact hs.2 k hk⟩
/-! the reference's days that are taken -/
def md_ih (σ : am_H) (n : Nat) : am_H := fun c k => if c = 76 ∧ k < n then (if (k : Int) % 4 = 3 then 1 else 0) else σ c k
theorem md_ih_0 (σ : am_H) : md_ih σ 0 = σ := by
  funext c k; unfold md_ih; rw [if_neg (by omega)]
theorem md_ih_at {σ : am_H} {n c k : Nat} (h : c ≠ 76) : md_ih σ n c k = σ c k := by
  unfold md_ih; rw [if_neg (by omega)]
theorem md_ih_s {σ : am_H} {n : Nat} {r : Int} (h : am_b r ((n : Int) % 4 = 3)) : am_up (md_ih σ n) 76 n r = md_ih σ (n + 1) := by
  have hr : r = if (n : Int) % 4 = 3 then 1 else 0 := by
    rcases h with h | h
    · rw [if_pos h.2]; exact h.1
    · rw [if_neg h.2]; exact h.1
  funext c k
  unfold am_up md_ih
  by_cases h1 : c = 76 ∧ k = n
  · rw [if_pos h1, if_pos (by omega), h1.2]; exact hr
  · rw [if_neg h1]
    by_cases h2 : c = 76 ∧ k < n
    · rw [if_pos h2, if_pos (show c = 76 ∧ k < n + 1 by omega)]
    · rw [if_neg h2, if_neg (show ¬ (c = 76 ∧ k < n + 1) by omega)]
abbrev md_frp (σ τ : am_H) : Prop := ∀ c k : Nat, c ≠ 71 → c ≠ 76 → (c ≠ 63 ∨ k < 14 ∨ 18 < k) → τ c k = σ c k
theorem md_frp_lw {σ τ : am_H} (h : md_frp σ τ) : md_lw τ = md_lw σ ∧ (MLaw σ → MLaw τ) := by
  have h7 : τ 63 13 = σ 63 13 := h 63 13 (by decide) (by decide) (by decide)
  have hr : lx_cmp (τ 70) (σ 63 13).toNat = lx_cmp (σ 70) (σ 63 13).toNat := lx_cmp_congr (fun k _ => h 70 k (by decide) (by decide) (Or.inl (by decide)))
  unfold md_lw MLaw
  rw [h7, hr]
  exact ⟨rfl, id⟩
theorem md_frp_wv {σ τ : am_H} (h : md_frp σ τ) (p q d : Int) : md_wv τ p q d = md_wv σ p q d := by
  unfold md_wv
  rw [(md_frp_lw h).1, h 64 _ (by decide) (by decide) (Or.inl (by decide)), h 64 _ (by decide) (by decide) (Or.inl (by decide))]
theorem md_owed_frp {σ τ : am_H} (h : md_frp σ τ) (p q : Int) : md_owed τ p q = md_owed σ p q := by
  unfold md_owed
  rw [h 63 7 (by decide) (by decide) (by decide)]
  exact am_sum_congr _ (fun k _ => by rw [h 68 _ (by decide) (by decide) (Or.inl (by decide)), h 68 _ (by decide) (by decide) (Or.inl (by decide)), h 68 _ (by decide) (by decide) (Or.inl (by decide))])
theorem md_ski_frp {σ τ : am_H} (h : md_frp σ τ) (hs : MskV σ) : MskV τ := ⟨fun k hk => by rw [h 64 k (by decide) (by decide) (Or.inl (by decide))]; exact hs.1 k hk, fun k hk => by rw [h 63 6 (by decide) (by decide) (by decide)] at hk; rw [h 64 _ (by decide) (by decide) (Or.inl (by decide))]; exact hs.2 k hk⟩
theorem pl_TU_congr {W : Int → Int} {τ τ' : am_H} {d0 M : Nat} {n : Int} (h : ∀ m, m < M → τ 76 (d0 + m) = τ' 76 (d0 + m)) : pl_TU W τ d0 M n = pl_TU W τ' d0 M n := by
  refine am_sum_congr 99 (fun i _ => ?_)
  congr 1
  exact am_sum_congr M (fun m hm => by rw [h m hm])
theorem pl_TU_nn {W : Int → Int} {τ : am_H} {d0 M : Nat} {n : Int} (hn : 0 ≤ n) (hM : M ≤ 48) : 0 ≤ pl_TU W τ d0 M n := by
  have h := am_sum_bd (f := fun i : Nat => pl_mn n (pl_GU W τ d0 M ((i : Int) + 1))) (m := 48) 99 (fun k _ => by
    have := pl_GU_bd W τ d0 M ((k : Int) + 1)
    show 0 ≤ pl_mn n _ ∧ pl_mn n _ ≤ 48
    unfold pl_mn; split <;> omega)
  exact h.1
