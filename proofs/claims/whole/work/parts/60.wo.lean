/-! the reference's reading of a whole text, and what a day's work is worth -/
theorem pu_ini {σ : am_H} {b n j f o : Int} : am_up (am_up (am_up (am_up (am_up σ 63 14 b) 63 15 j) 63 16 n) 63 17 f) 63 18 o = pu (am_up (am_up σ 63 14 b) 63 16 n) j f o := by
  funext c k
  unfold pu am_up
  by_cases h1 : c = 63 ∧ k = 18
  · rw [if_pos h1, if_pos h1]
  · rw [if_neg h1, if_neg h1]
    by_cases h2 : c = 63 ∧ k = 17
    · rw [if_pos h2, if_pos h2]
    · rw [if_neg h2, if_neg h2]
      by_cases h3 : c = 63 ∧ k = 16
      · rw [if_pos h3, if_neg (by omega), if_pos h3]
      · rw [if_neg h3]
        by_cases h4 : c = 63 ∧ k = 15
        · rw [if_pos h4, if_pos h4]
        · rw [if_neg h4, if_neg h4, if_neg h3]
def lx_GV (G : Option Int) (g v : Int) : Prop := (g = 0 ∧ v = 0 ∧ G = none) ∨ (g = 1 ∧ G = some v)
def lx_res (τ : am_H) (T : Nat → Int) (n : Nat) (v : Int) : Prop := ∃ (c : List Int) (H : (Nat → Int) → Int), lx_cmp T n = some c ∧ (∀ N, lx_ex N c.reverse [] 0 = some (H N)) ∧ v = H (τ 71)
def lx_WI (τ : am_H) (T : Nat → Int) (n j : Nat) (f o' g v mo : Int) : Prop := j ≤ n ∧ (-1 ≤ f ∧ f ≤ n) ∧
  ((mo = 1 ∧ f = -1 ∧ o' = 0 ∧ ∃ G, lx_Lin T n j 0 G (fun _ => true) ∧ lx_GV (G (τ 71)) g v) ∨ (mo = 0 ∧ ∃ fn : Nat, f = (fn : Int) ∧ lx_bad T n fn) ∨ (mo = 0 ∧ f = -1 ∧ j < n ∧ lx_bad T n j) ∨ (mo = 0 ∧ f = -1 ∧ j = n ∧ lx_res τ T n v))
theorem lx_WI_s {τ : am_H} {T : Nat → Int} {n i j j' : Nat} {cd g v g' v' f o' w r : Int} {G : (Nat → Int) → Option Int} {P : (Nat → Int) → Bool} (hl : lx_Lin T n i cd G P) (hg : lx_GV (G (τ 71)) g v) (hp : lx_PO τ T n 1 1 0 i w j f o')
    (hcd : f < 0 → j < n → T j = 63 → cd ≠ 0) (hup : f < 0 → ((P (τ 71) = true ∧ g = 0) ∧ g' = 1 ∧ v' = w) ∨ (¬ (P (τ 71) = true ∧ g = 0) ∧ g' = g ∧ v' = v))
    (ht : (r = 1 ∧ j' = j + 1 ∧ f < 0 ∧ j < n ∧ T j = 59) ∨ (r = 0 ∧ j' = j ∧ (0 ≤ f ∨ n ≤ j ∨ T j ≠ 59))) : lx_WI τ T n j' f o' g' v' r := by
  have hb := lx_PO_f hp
  obtain ⟨h1, h2, h3⟩ := hp
  rcases h3 with ⟨h3, h4, F, h5, h6⟩ | ⟨fn, h3, h4⟩
  · have hgv : lx_GV (lx_G G P F (τ 71)) g' v' := by
      have hup := hup (by omega)
      unfold lx_G
      rcases hg with ⟨a1, a2, a3⟩ | ⟨a1, a2⟩
      · rw [a3]
        show lx_GV (if P (τ 71) = true then some (F (τ 71)) else none) g' v'
        rcases hup with ⟨⟨b1, b2⟩, b3, b4⟩ | ⟨b1, b3, b4⟩
        · rw [if_pos b1]
          exact Or.inr ⟨b3, by rw [b4, h6]⟩
        · rw [if_neg (fun q => b1 ⟨q, a1⟩)]
          exact Or.inl ⟨by omega, by omega, rfl⟩
      · rw [a2]
        show lx_GV (some v) g' v'
        rcases hup with ⟨⟨b1, b2⟩, b3, b4⟩ | ⟨b1, b3, b4⟩
        · omega
        · exact Or.inr ⟨by omega, by rw [b4]⟩
    rcases ht with ⟨t1, t2, t3, t4, t5⟩ | ⟨t1, t2, t3⟩
    · subst t2
      exact ⟨by omega, by omega, Or.inl ⟨t1, h3, h4, _, lx_Lin_next hl h5 t4 t5, hgv⟩⟩
    · subst t2
      by_cases hn : j' < n
      · exact ⟨by omega, by omega, Or.inr (Or.inr (Or.inl ⟨t1, h3, hn, lx_Lin_bad hl h5 hn (by omega) (hcd (by omega) hn)⟩))⟩
      · obtain ⟨c, c1, c2⟩ := lx_Lin_cmp hl h5 (by omega)
        refine ⟨by omega, by omega, Or.inr (Or.inr (Or.inr ⟨t1, h3, by omega, c, _, c1, c2, ?_⟩))⟩
        rcases hgv with ⟨d1, d2, d3⟩ | ⟨d1, d2⟩
        · rw [d3]; exact d2
        · rw [d2]; rfl
  · have hr : r = 0 := by omega
    have hj : j' = j := by omega
    exact ⟨by omega, by omega, Or.inr (Or.inl ⟨hr, fn, h3, lx_Lin_flt hl h4⟩)⟩
theorem lx_Lin_c2 {τ : am_H} {T : Nat → Int} {n i j : Nat} {f o' w : Int} {G : (Nat → Int) → Option Int} (hl : lx_Lin T n i 0 G (fun _ => true)) (hp : lx_PO τ T n 1 1 0 i w j f o') (hf : f < 0) (hj : j < n) (hx : T j = 63) : ∃ P, lx_Lin T n (j + 1) 1 G P ∧ (P (τ 71) = true ↔ w ≠ 0) := by
  obtain ⟨h1, h2, h3⟩ := hp
  rcases h3 with ⟨h3, h4, F, h5, h6⟩ | ⟨fn, h3, h4⟩
  · refine ⟨_, lx_Lin_cond hl h5 hj hx, ?_⟩
    rw [decide_eq_true_iff, h6]
  · omega
theorem lx_ex_congr {N N' : Nat → Int} (h : ∀ k, k < 6 → N k = N' k) : ∀ (cs s : List Int) (p : Int), lx_ex N cs s p = lx_ex N' cs s p
  | [], _, _ => rfl
  | c :: cs, s, p => by
    have ih := lx_ex_congr h cs
    rw [lx_ex_c, lx_ex_c]
    by_cases hp : p ≠ 0
    · rw [if_pos hp, if_pos hp]; exact ih _ _
    · rw [if_neg hp, if_neg hp]
      by_cases h1 : c < 10000
      · rw [if_pos h1, if_pos h1]; exact ih _ _
      · rw [if_neg h1, if_neg h1]
        by_cases h2 : c < 10006
        · rw [if_pos h2, if_pos h2, h _ (by omega)]; exact ih _ _
        · rw [if_neg h2, if_neg h2]
          by_cases h3 : c < 20000
          · rw [if_pos h3, if_pos h3]
          · rw [if_neg h3, if_neg h3]
            by_cases h4 : c = 20059
            · rw [if_pos h4, if_pos h4]
            · rw [if_neg h4, if_neg h4]
              by_cases h5 : c = 20063
              · rw [if_pos h5, if_pos h5]
                cases s with
                | nil => rfl
                | cons x s => exact ih _ _
              · rw [if_neg h5, if_neg h5]
                by_cases h6 : lx_rank (c - 20000) = 6
                · rw [if_pos h6, if_pos h6]
                  cases s with
                  | nil => rfl
                  | cons x s => exact ih _ _
                · rw [if_neg h6, if_neg h6]
                  cases s with
                  | nil => rfl
                  | cons y s =>
                    cases s with
                    | nil => rfl
                    | cons x s => exact ih _ _
def wv_cl (x : Int) : Int := if x < 0 then 0 else if 99 < x then 99 else x
theorem wv_cl_bd (x : Int) : 0 ≤ wv_cl x ∧ wv_cl x ≤ 99 := by
  unfold wv_cl; (repeat' split) <;> omega
/-- what the law (its code, newest first) gives -/
def wv_of (lw : Option (List Int)) (l s d p q : Int) : Int := wv_cl (match lw with
  | none => l * s
  | some rc => (lx_ex (lx_N d l s p q) rc.reverse [] 0).getD 0)
def lx_tot (rc : List Int) : Prop := ∀ N, ∃ v, lx_ex N rc.reverse [] 0 = some v
def md_lw (σ : am_H) : Option (List Int) := if σ 63 13 < 0 then none else lx_cmp (σ 70) (σ 63 13).toNat
def md_wv (σ : am_H) (p q d : Int) : Int := wv_of (md_lw σ) (σ 64 (d / 4).toNat) (σ 64 (12 + p).toNat) d p q
def MLaw (σ : am_H) : Prop := σ 63 13 = -1 ∨ (0 ≤ σ 63 13 ∧ σ 63 13 ≤ 120 ∧ ∃ rc, lx_cmp (σ 70) (σ 63 13).toNat = some rc ∧ lx_tot rc)
def c_lw (σ : am_H) : Option (List Int) := if 0 < σ 9 7 then some (rcl σ 11 (σ 9 7).toNat) else none
def c_wv (σ : am_H) (p q d : Int) : Int := wv_of (c_lw σ) (σ 2 (d / 4).toNat) (σ 3 p.toNat) d p q
def CLaw (σ : am_H) : Prop := σ 9 7 = 0 ∨ (0 < σ 9 7 ∧ σ 9 7 ≤ 121 ∧ (rcl σ 11 (σ 9 7).toNat).headD 0 = 20059 ∧ lx_tot (rcl σ 11 (σ 9 7).toNat))
theorem wv_bd (lw : Option (List Int)) (l s d p q : Int) : 0 ≤ wv_of lw l s d p q ∧ wv_of lw l s d p q ≤ 99 := wv_cl_bd _
theorem lx_cmp_head {T : Nat → Int} {n : Nat} {rc : List Int} (h : lx_cmp T n = some rc) : rc.headD 0 = 20059 := by
  unfold lx_cmp at h
  cases hr : lx_run T n 0 lx_0 with
  | none => rw [hr] at h; cases h
  | some U =>
    obtain ⟨c, ops, o, b, g, due, cd⟩ := U
    rw [hr] at h
    have h : (if due ≠ 0 ∨ 0 < b then none else some (20059 :: (lx_set 1 c ops o).1)) = some rc := h
    by_cases hd : due ≠ 0 ∨ 0 < b
    · rw [if_pos hd] at h; cases h
    · rw [if_neg hd] at h; cases h; rfl
/-- only the reference's own reading cells changed -/
def md_fr (σ σ' : am_H) : Prop := ∀ c k : Nat, c ≠ 71 → (c ≠ 63 ∨ k < 14 ∨ 18 < k) → σ' c k = σ c k
/-- only the code's scratch cells changed -/
def c_fr (σ σ' : am_H) : Prop := ∀ c k : Nat, c ≠ 14 → c ≠ 15 → σ' c k = σ c k
theorem md_fr_rf (σ : am_H) : md_fr σ σ := fun _ _ _ _ => rfl
theorem c_fr_rf (σ : am_H) : c_fr σ σ := fun _ _ _ _ => rfl
theorem md_fr_tr {σ τ υ : am_H} (h : md_fr σ τ) (h' : md_fr τ υ) : md_fr σ υ := fun c k h1 h2 => (h' c k h1 h2).trans (h c k h1 h2)
theorem c_fr_tr {σ τ υ : am_H} (h : c_fr σ τ) (h' : c_fr τ υ) : c_fr σ υ := fun c k h1 h2 => (h' c k h1 h2).trans (h c k h1 h2)
theorem c_lw_fr {σ τ : am_H} (h : c_fr σ τ) : c_lw τ = c_lw σ ∧ (CLaw σ → CLaw τ) := by
  have h7 : τ 9 7 = σ 9 7 := h 9 7 (by decide) (by decide)
  have hr : rcl τ 11 (σ 9 7).toNat = rcl σ 11 (σ 9 7).toNat := rcl_congr _ (fun k _ => h 11 k (by decide) (by decide))
  unfold c_lw CLaw
  rw [h7, hr]
  exact ⟨rfl, id⟩
theorem md_lw_fr {σ τ : am_H} (h : md_fr σ τ) : md_lw τ = md_lw σ ∧ (MLaw σ → MLaw τ) := by
  have h7 : τ 63 13 = σ 63 13 := h 63 13 (by decide) (by decide)
  have hr : lx_cmp (τ 70) (σ 63 13).toNat = lx_cmp (σ 70) (σ 63 13).toNat := lx_cmp_congr (fun k _ => h 70 k (by decide) (Or.inl (by decide)))
  unfold md_lw MLaw
  rw [h7, hr]
  exact ⟨rfl, id⟩
theorem c_wv_fr {σ τ : am_H} (h : c_fr σ τ) (p q d : Int) : c_wv τ p q d = c_wv σ p q d := by
  unfold c_wv
  rw [(c_lw_fr h).1, h 2 _ (by decide) (by decide), h 3 _ (by decide) (by decide)]
theorem md_wv_fr {σ τ : am_H} (h : md_fr σ τ) (p q d : Int) : md_wv τ p q d = md_wv σ p q d := by
  unfold md_wv
  rw [(md_lw_fr h).1, h 64 _ (by decide) (Or.inl (by decide)), h 64 _ (by decide) (Or.inl (by decide))]
def md_tx (σ : am_H) (n : Nat) : am_H := fun c k => if c = 70 ∧ k < n then σ 69 k else σ c k
theorem md_tx_0 (σ : am_H) : md_tx σ 0 = σ := by
  funext c k; unfold md_tx; rw [if_neg (by omega)]
theorem md_tx_at {σ : am_H} {n c k : Nat} (h : c ≠ 70) : md_tx σ n c k = σ c k := by
  unfold md_tx; rw [if_neg (by omega)]
theorem md_tx_s {σ : am_H} {n : Nat} : am_up (md_tx σ n) 70 n (σ 69 n) = md_tx σ (n + 1) := by
  funext c k
  unfold am_up md_tx
  by_cases h1 : c = 70 ∧ k = n
  · rw [if_pos h1, if_pos (by omega), h1.2]
  · rw [if_neg h1]
    by_cases h2 : c = 70 ∧ k < n
    · rw [if_pos h2, if_pos (by omega)]
    · rw [if_neg h2, if_neg (by omega)]
