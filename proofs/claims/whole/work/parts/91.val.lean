/-! what is owed, what a day is worth: alike -/
theorem cp_owed {σ τ : am_H} (h : RDeb σ τ 16 7 68) (p q : Int) : md_owed τ p q = c_owed σ p q := by
  have hd := cp_deb h
  unfold md_owed c_owed
  rw [hd.1.1]
  refine am_sum_congr _ (fun k hk => ?_)
  have q := (hd.2 k (by omega)).1
  rw [q.1, q.2.1, q.2.2.1]
theorem cp_net {σ τ : am_H} (h : RDeb σ τ 16 7 68) (p : Nat) : md_net τ p = c_net σ p := by
  have hd := cp_deb h
  unfold md_net c_net
  rw [hd.1.1]
  refine am_sum_congr _ (fun k hk => ?_)
  have q := (hd.2 k (by omega)).1
  unfold md_con c_con
  rw [q.1, q.2.1, q.2.2.1, q.2.2.2.1]
  by_cases e : σ 20 k = 12
  · rw [if_pos e]
    simp only [e, true_and]
  · rw [if_neg e, if_neg (fun q => e q.1), if_neg (fun q => e q.1)]; rfl
theorem cp_wv {σ τ : am_H} (hS : RSet σ τ) (hL : RLaw σ τ) {p q d : Int} (hp : 0 ≤ p ∧ p < σ 1 2) (hd : 0 ≤ d ∧ d ≤ 47) : md_wv τ p q d = c_wv σ p q d := by
  unfold md_wv c_wv
  rw [hL.2.2.2, (hS.2.1 (d / 4).toNat (by omega)).1, show (12 + p).toNat = 12 + p.toNat by omega, (hS.2.2.1 p.toNat (by omega)).1]
theorem cp_T {W W' : Int → Int} {d0 : Int} {M : Nat} {n : Int} (h : ∀ m : Nat, m < M → W (d0 + (m : Int)) = W' (d0 + (m : Int))) : pl_T W d0 M n = pl_T W' d0 M n := by
  unfold pl_T
  refine am_sum_congr 99 (fun i _ => ?_)
  have hG : pl_GE W d0 M ((i : Int) + 1) = pl_GE W' d0 M ((i : Int) + 1) := by
    unfold pl_GE
    exact am_sum_congr M (fun m hm => by rw [h m hm])
  rw [hG]
/-- plan's answers alike -/
theorem cp_plan {σ τ : am_H} (hS : RSet σ τ) (hL : RLaw σ τ) (hD : RDeb σ τ 16 7 68) (hn : τ 63 9 = σ 22 7) (hn0 : 0 ≤ σ 22 7) (a b : Int) (hb : 0 ≤ b ∧ b ≤ 47) :
    am_sum (fun k : Nat => pl_T (fun d => md_wv τ (k : Int) a d) (τ 63 9 + 3) (b + 1 - (τ 63 9 + 3)).toNat (md_owed τ (k : Int) a)) (τ 63 6).toNat = am_sum (fun k : Nat => pl_T (fun d => c_wv σ (k : Int) a d) (σ 22 7 + 3) (b + 1 - (σ 22 7 + 3)).toNat (c_owed σ (k : Int) a)) (σ 1 2).toNat := by
  rw [hn, hS.1.1]
  refine am_sum_congr _ (fun k hk => ?_)
  rw [cp_owed hD]
  exact cp_T (fun m hm => cp_wv hS hL (by omega) (by omega))
/-- wiped's answers alike -/
theorem cp_net_f {σ τ : am_H} (h : RDeb σ τ 16 7 68) : md_net τ = c_net σ := funext (cp_net h)
