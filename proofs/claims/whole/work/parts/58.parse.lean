/-! the reference's parse: its place, its fault, how many signs and brackets are about it -/
def pu (σ : am_H) (j f o : Int) : am_H := am_up (am_up (am_up σ 63 15 j) 63 17 f) 63 18 o
section PU
variable {σ : am_H} {j f o v : Int}
theorem pu_15 : pu σ j f o 63 15 = j := by simp [pu, am_up]
theorem pu_17 : pu σ j f o 63 17 = f := by simp [pu, am_up]
theorem pu_18 : pu σ j f o 63 18 = o := by simp [pu, am_up]
theorem pu_at {c k : Nat} (h : c ≠ 63 ∨ (k ≠ 15 ∧ k ≠ 17 ∧ k ≠ 18)) : pu σ j f o c k = σ c k := by
  unfold pu
  rw [am_up_k (by omega), am_up_k (by omega), am_up_k (by omega)]
theorem pu_s15 : am_up (pu σ j f o) 63 15 v = pu σ v f o := by
  funext c k
  unfold pu am_up
  by_cases h1 : c = 63 ∧ k = 15
  · rw [if_pos h1, if_neg (by omega), if_neg (by omega), if_pos h1]
  · rw [if_neg h1]
    (repeat' split) <;> first | rfl | omega
theorem pu_s17 : am_up (pu σ j f o) 63 17 v = pu σ j v o := by
  funext c k
  unfold pu am_up
  by_cases h1 : c = 63 ∧ k = 17
  · rw [if_pos h1, if_neg (by omega), if_pos h1]
  · rw [if_neg h1]
    (repeat' split) <;> first | rfl | omega
theorem pu_s18 : am_up (pu σ j f o) 63 18 v = pu σ j f v := by
  funext c k
  unfold pu am_up
  by_cases h1 : c = 63 ∧ k = 18
  · rw [if_pos h1, if_pos h1]
  · rw [if_neg h1]
    (repeat' split) <;> first | rfl | omega
end PU
theorem pu_i15 {σ : am_H} {j : Nat} {f o : Int} : am_up (pu σ (j : Int) f o) 63 15 ((j : Int) + 1) = pu σ ((j + 1 : Nat) : Int) f o := by
  rw [pu_s15]; rfl
def lx_at (T : Nat → Int) (n i : Nat) : Int := if i < n then T i else 0
theorem lx_at_in {T : Nat → Int} {n i : Nat} (h : lx_at T n i ≠ 0) : i < n ∧ lx_at T n i = T i := by
  unfold lx_at at *
  by_cases hi : i < n
  · rw [if_pos hi]; exact ⟨hi, rfl⟩
  · rw [if_neg hi] at h; exact absurd rfl h
theorem lx_at_eq {T : Nat → Int} {n i : Nat} (h : i < n) : lx_at T n i = T i := if_pos h
/-- the text that is read: of n bytes T -/
def lx_txt (σ : am_H) (T : Nat → Int) (n : Nat) : Prop := n ≤ 120 ∧ σ 63 16 = (n : Int) ∧ ((σ 63 14 = -1 ∧ ∀ k : Nat, k < n → σ 69 k = T k) ∨ (σ 63 14 = 0 ∧ ∀ k : Nat, k < n → σ 70 k = T k))
def lx_PO (σ : am_H) (T : Nat → Int) (n : Nat) (L M o : Int) (i : Nat) (r : Int) (j : Nat) (f o' : Int) : Prop :=
  (i ≤ j ∧ j ≤ n) ∧ (o ≤ o' ∧ o' ≤ 6) ∧ ((f = -1 ∧ o' = o ∧ ∃ F, lx_Sim T n L M o i j F ∧ r = F (σ 71)) ∨ (∃ fn : Nat, f = (fn : Int) ∧ lx_Flt T n L o i fn))
section PO
variable {σ : am_H} {T : Nat → Int} {n : Nat} {L M o : Int} {i : Nat} {r : Int} {j : Nat} {f o' : Int}
theorem lx_PO_f (h : lx_PO σ T n L M o i r j f o') : -1 ≤ f ∧ f ≤ n ∧ (f < 0 → f = -1 ∧ o' = o) ∧ i ≤ j ∧ j ≤ n ∧ o ≤ o' ∧ o' ≤ 6 := by
  obtain ⟨h1, h2, h3⟩ := h
  rcases h3 with ⟨h3, h4, -⟩ | ⟨fn, h3, h4⟩
  · omega
  · have := h4.1
    omega
theorem lx_PO_up {L' : Int} (h : lx_PO σ T n L M o i r j f o') (hl : L' ≤ L) (h5 : L' ≤ 5) : lx_PO σ T n L' M o i r j f o' := by
  obtain ⟨h1, h2, h3⟩ := h
  refine ⟨h1, h2, ?_⟩
  rcases h3 with ⟨h3, h4, F, h5', h6⟩ | ⟨fn, h3, h4⟩
  · exact Or.inl ⟨h3, h4, F, lx_Sim_up h5' hl h5, h6⟩
  · exact Or.inr ⟨fn, h3, lx_Flt_up h4 hl h5⟩
theorem lx_PO_stop {M' : Int} (h : lx_PO σ T n L M o i r j f o') (hs : f < 0 → j < n → ¬ (M' ≤ lx_rank (T j) ∧ lx_rank (T j) < M)) : lx_PO σ T n L M' o i r j f o' := by
  obtain ⟨h1, h2, h3⟩ := h
  refine ⟨h1, h2, ?_⟩
  rcases h3 with ⟨h3, h4, F, h5, h6⟩ | h3
  · exact Or.inl ⟨h3, h4, F, lx_Sim_stop h5 (hs (by omega)), h6⟩
  · exact Or.inr h3
theorem lx_PO_bin {M' : Int} {w v : Int} {k : Nat} {f2 o2 x : Int} (hL : 1 ≤ L ∧ L ≤ 5 ∧ L ≠ 3) (h : lx_PO σ T n L M o i r j f o') (hf : f < 0) (hj : j < n) (hx : T j = x) (hr : lx_rank x = L) (h2 : lx_PO σ T n (L + 1) M' o (j + 1) w k f2 o2) (hv : v = lx_op2 x r w) : lx_PO σ T n L M' o i v k f2 o2 := by
  subst hx
  obtain ⟨h1, h1', h3⟩ := h
  rcases h3 with ⟨h3, h4, F, h5, h6⟩ | ⟨fn, h3, -⟩
  · obtain ⟨a1, a2, a3⟩ := h2
    refine ⟨by omega, a2, ?_⟩
    rcases a3 with ⟨a3, a4, G, a5, a6⟩ | ⟨fn, a3, a4⟩
    · exact Or.inl ⟨a3, a4, _, lx_Sim_bin hL h5 hj hr a5, by rw [hv, h6, a6]⟩
    · exact Or.inr ⟨fn, a3, lx_Flt_bin hL h5 hj hr a4⟩
  · omega
theorem lx_PO_cmp {w v : Int} {k : Nat} {f2 o2 x : Int} (h : lx_PO σ T n 4 M o i r j f o') (hf : f < 0) (hj : j < n) (hx : T j = x) (hr : lx_rank x = 3) (h2 : lx_PO σ T n 4 4 o (j + 1) w k f2 o2) (hv : v = lx_op2 x r w) : lx_PO σ T n 3 3 o i v k f2 o2 := by
  subst hx
  obtain ⟨h1, h1', h3⟩ := h
  rcases h3 with ⟨h3, h4, F, h5, h6⟩ | ⟨fn, h3, -⟩
  · obtain ⟨a1, a2, a3⟩ := h2
    refine ⟨by omega, a2, ?_⟩
    rcases a3 with ⟨a3, a4, G, a5, a6⟩ | ⟨fn, a3, a4⟩
    · exact Or.inl ⟨a3, a4, _, lx_Sim_cmp h5 hj hr a5, by rw [hv, h6, a6]⟩
    · exact Or.inr ⟨fn, a3, lx_Flt_cmp h5 hj hr a4⟩
  · omega
theorem lx_PO_sign {v w x : Int} (hi : i < n) (hx : T i = x) (hx2 : x = 33 ∨ x = 45) (ho : o < 6) (h : lx_PO σ T n 6 6 (o + 1) (i + 1) w j f o') (hv : v = lx_op1 (if x = 45 then 126 else x) w) : lx_PO σ T n 6 6 o i v j f (o' - 1) := by
  subst hx
  obtain ⟨a1, a2, a3⟩ := h
  refine ⟨by omega, by omega, ?_⟩
  rcases a3 with ⟨a3, a4, F, a5, a6⟩ | ⟨fn, a3, a4⟩
  · exact Or.inl ⟨a3, by omega, _, lx_Sim_sign hx2 ho a5, by rw [hv, a6]⟩
  · exact Or.inr ⟨fn, a3, lx_Flt_sign hx2 ho a4⟩
theorem lx_PO_brk {w : Int} (hi : i < n) (hx : T i = 40) (ho : o < 6) (h : lx_PO σ T n 1 1 (o + 1) (i + 1) w j f o') (hf : f < 0) (hj : j < n) (hy : T j = 41) : lx_PO σ T n 6 6 o i w (j + 1) f (o' - 1) := by
  obtain ⟨a1, a2, a3⟩ := h
  refine ⟨by omega, by omega, ?_⟩
  rcases a3 with ⟨a3, a4, F, a5, a6⟩ | ⟨fn, a3, a4⟩
  · exact Or.inl ⟨a3, by omega, _, lx_Sim_brk hx ho a5 hj hy, a6⟩
  · omega
theorem lx_PO_brk2 {w v : Int} (hi : i < n) (hx : T i = 40) (ho : o < 6) (h : lx_PO σ T n 1 1 (o + 1) (i + 1) w j f o') (hy : 0 ≤ f ∨ n ≤ j ∨ T j ≠ 41) : lx_PO σ T n 6 6 o i v j (if f < 0 then (j : Int) else f) o' := by
  obtain ⟨a1, a2, a3⟩ := h
  refine ⟨by omega, by omega, ?_⟩
  rcases a3 with ⟨a3, a4, F, a5, a6⟩ | ⟨fn, a3, a4⟩
  · refine Or.inr ⟨j, by rw [if_pos (by omega)], lx_Flt_brk2 hx ho a5 (fun hj => by omega)⟩
  · exact Or.inr ⟨fn, by rw [if_neg (by omega)]; exact a3, lx_Flt_brk hx ho a4⟩
theorem lx_PO_no {v : Int} (hi : i ≤ n) (ho : o ≤ 6) (h : i < n → ¬ (48 ≤ T i ∧ T i ≤ 57) ∧ ¬ 0 ≤ lx_name (T i) ∧ (¬ (T i = 40 ∨ T i = 33 ∨ T i = 45) ∨ 6 ≤ o)) : lx_PO σ T n 6 6 o i v i (i : Int) o :=
  ⟨by omega, by omega, Or.inr ⟨i, rfl, lx_Flt_one hi h⟩⟩
theorem lx_PO_nam {k : Int} (hi : i < n) (ho : o ≤ 6) (hk : lx_name (T i) = k) (h0 : 0 ≤ k) (hr : r = σ 71 k.toNat) : lx_PO σ T n 6 6 o i r (i + 1) (-1) o :=
  ⟨by omega, by omega, Or.inl ⟨rfl, rfl, _, lx_Sim_nam hi hk h0, hr⟩⟩
theorem lx_PO_num {m : Nat} (ho : o ≤ 6) (h : lx_Num T n i m r) (hm : 1 ≤ m) (hs : m = 4 ∨ (i + m < n → ¬ (48 ≤ T (i + m) ∧ T (i + m) ≤ 57))) : lx_PO σ T n 6 6 o i r (i + m) (-1) o :=
  ⟨by have := h.1; omega, by omega, Or.inl ⟨rfl, rfl, _, lx_Sim_num h hm hs, rfl⟩⟩
end PO
theorem lx_rank_c {x : Int} : (lx_rank x = 1 ↔ x = 124) ∧ (lx_rank x = 2 ↔ x = 38) ∧ (lx_rank x = 3 ↔ x = 60 ∨ x = 61 ∨ x = 62) ∧ (lx_rank x = 4 ↔ x = 43 ∨ x = 45) ∧ (lx_rank x = 5 ↔ x = 42 ∨ x = 47 ∨ x = 37) := by
  unfold lx_rank
  (repeat' split) <;> omega
/-- the contracts of the levels: with k signs and brackets still allowed -/
abbrev lx_post (σ : am_H) (T : Nat → Int) (n : Nat) (L : Int) (o : Int) (i : Nat) : Int → List am_S → am_H → Prop := fun r sh' σ' => SH = sh' ∧ ∃ (j : Nat) (f o' : Int), σ' = pu σ j f o' ∧ lx_PO σ T n L L o i r j f o'
def lx_C6 (σ : am_H) (T : Nat → Int) (n k : Nat) : Prop := ∀ (i : Nat) (o : Int), o = 6 - (k : Int) → 0 ≤ o → i ≤ n → am_Mi yX10_one cX10_one 5 (some .int) (6 * k + 2) 0 0 [vr 63] SH (pu σ (i : Int) (-1) o) (lx_post σ T n 6 o i)
def lx_C5 (σ : am_H) (T : Nat → Int) (n k : Nat) : Prop := ∀ (i : Nat) (o : Int), o = 6 - (k : Int) → 0 ≤ o → i ≤ n → am_Mi yX10_product cX10_product 4 (some .int) (6 * k + 3) 0 0 [vr 63] SH (pu σ (i : Int) (-1) o) (lx_post σ T n 5 o i)
def lx_C4 (σ : am_H) (T : Nat → Int) (n k : Nat) : Prop := ∀ (i : Nat) (o : Int), o = 6 - (k : Int) → 0 ≤ o → i ≤ n → am_Mi yX10_sums cX10_sums 4 (some .int) (6 * k + 4) 0 0 [vr 63] SH (pu σ (i : Int) (-1) o) (lx_post σ T n 4 o i)
def lx_C3 (σ : am_H) (T : Nat → Int) (n k : Nat) : Prop := ∀ (i : Nat) (o : Int), o = 6 - (k : Int) → 0 ≤ o → i ≤ n → am_Mi yX10_compared cX10_compared 4 (some .int) (6 * k + 5) 0 0 [vr 63] SH (pu σ (i : Int) (-1) o) (lx_post σ T n 3 o i)
def lx_C2 (σ : am_H) (T : Nat → Int) (n k : Nat) : Prop := ∀ (i : Nat) (o : Int), o = 6 - (k : Int) → 0 ≤ o → i ≤ n → am_Mi yX10_both cX10_both 3 (some .int) (6 * k + 6) 0 0 [vr 63] SH (pu σ (i : Int) (-1) o) (lx_post σ T n 2 o i)
def lx_C1 (σ : am_H) (T : Nat → Int) (n k : Nat) : Prop := ∀ (i : Nat) (o : Int), o = 6 - (k : Int) → 0 ≤ o → i ≤ n → am_Mi yX10_either cX10_either 3 (some .int) (6 * k + 7) 0 0 [vr 63] SH (pu σ (i : Int) (-1) o) (lx_post σ T n 1 o i)
