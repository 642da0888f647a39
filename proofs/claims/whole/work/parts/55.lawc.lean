/-! the law's reader in cells -/
/-- n places of a cell, newest first -/
def rcl (σ : am_H) (c : Nat) : Nat → List Int
  | 0 => []
  | n + 1 => σ c n :: rcl σ c n
theorem rcl_len (σ : am_H) (c : Nat) : ∀ n, (rcl σ c n).length = n
  | 0 => rfl
  | n + 1 => by
    show (rcl σ c n).length + 1 = n + 1
    rw [rcl_len σ c n]
theorem rcl_congr {σ τ : am_H} {c d : Nat} : ∀ n, (∀ k, k < n → σ c k = τ d k) → rcl σ c n = rcl τ d n
  | 0, _ => rfl
  | n + 1, h => by
    show σ c n :: rcl σ c n = τ d n :: rcl τ d n
    rw [h n (Nat.lt_succ_self n), rcl_congr n (fun k hk => h k (by omega))]
theorem rcl_up {σ : am_H} {c c' k n : Nat} {v : Int} (h : c' ≠ c ∨ n ≤ k) : rcl (am_up σ c k v) c' n = rcl σ c' n :=
  rcl_congr n (fun j hj => am_up_k (by omega))
theorem rcl_s (σ : am_H) (c n : Nat) : rcl σ c (n + 1) = σ c n :: rcl σ c n := rfl
theorem rcl_eq {σ : am_H} {c : Nat} {l : List Int} (h : l = rcl σ c l.length) {k : Nat} (hk : k < l.length) : σ c k = l.reverse.getD k 0 := by
  generalize hn : l.length = n at h hk
  subst h
  clear hn
  induction n with
  | zero => omega
  | succ n ih =>
    rw [rcl_s, List.reverse_cons, List.getD_eq_getElem?_getD]
    by_cases e : k = n
    · subst e
      rw [List.getElem?_append_right (by rw [List.length_reverse, rcl_len]; exact Nat.le_refl _), List.length_reverse, rcl_len, Nat.sub_self]; rfl
    · rw [List.getElem?_append_left (by rw [List.length_reverse, rcl_len]; omega), ← List.getD_eq_getElem?_getD]
      exact ih (by omega)
def lx_is (σ : am_H) (S : lx_S) : Prop := (σ 9 8 = S.1.length ∧ S.1 = rcl σ 12 S.1.length) ∧ (σ 9 9 = S.2.1.length ∧ S.2.1 = rcl σ 13 S.2.1.length) ∧ σ 9 10 = S.2.2.1 ∧ σ 9 11 = S.2.2.2.1 ∧ σ 9 12 = S.2.2.2.2.1 ∧ σ 9 13 = S.2.2.2.2.2.1 ∧ σ 9 14 = S.2.2.2.2.2.2
/-- nothing but the reader's own cells changed -/
def lx_fr (σ σ' : am_H) : Prop := ∀ c k : Nat, c ≠ 12 → c ≠ 13 → (c ≠ 9 ∨ k < 8) → σ' c k = σ c k
theorem lx_fr_rf (σ : am_H) : lx_fr σ σ := fun _ _ _ _ _ => rfl
theorem lx_fr_tr {σ τ υ : am_H} (h : lx_fr σ τ) (h' : lx_fr τ υ) : lx_fr σ υ := fun c k h1 h2 h3 => (h' c k h1 h2 h3).trans (h c k h1 h2 h3)
theorem lx_fr_up {σ τ : am_H} {c k : Nat} {v : Int} (h : lx_fr σ τ) (hc : c = 12 ∨ c = 13 ∨ (c = 9 ∧ 8 ≤ k)) : lx_fr σ (am_up τ c k v) := fun c' k' h1 h2 h3 => by
  rw [am_up_k (by omega)]; exact h c' k' h1 h2 h3
def lw_emit (σ : am_H) (x : Int) : am_H := am_up (am_up σ 12 (σ 9 8).toNat x) 9 8 (σ 9 8 + 1)
def lw_push (σ : am_H) (x : Int) : am_H := am_up (am_up σ 13 (σ 9 9).toNat x) 9 9 (σ 9 9 + 1)
section LXIS
variable {σ : am_H} {c ops : List Int} {o b g due cd : Int}
theorem lx_fr_emit {τ : am_H} {x : Int} (h : lx_fr σ τ) : lx_fr σ (lw_emit τ x) := lx_fr_up (lx_fr_up h (Or.inl rfl)) (Or.inr (Or.inr ⟨rfl, Nat.le_refl _⟩))
theorem lx_fr_push {τ : am_H} {x : Int} (h : lx_fr σ τ) : lx_fr σ (lw_push τ x) := lx_fr_up (lx_fr_up h (Or.inr (Or.inl rfl))) (Or.inr (Or.inr ⟨rfl, by decide⟩))
theorem lx_is_emit (h : lx_is σ (c, ops, o, b, g, due, cd)) (x : Int) : lx_is (lw_emit σ x) (x :: c, ops, o, b, g, due, cd) := by
  obtain ⟨⟨h1, h2⟩, ⟨h3, h4⟩, h5, h6, h7, h8, h9⟩ := h
  have h1 : σ 9 8 = c.length := h1
  have h2 : c = rcl σ 12 c.length := h2
  have h3 : σ 9 9 = ops.length := h3
  have h4 : ops = rcl σ 13 ops.length := h4
  have ht : (σ 9 8).toNat = c.length := by omega
  unfold lw_emit
  rw [ht]
  refine ⟨⟨?_, ?_⟩, ⟨?_, ?_⟩, ?_, ?_, ?_, ?_, ?_⟩
  · rw [am_up_eq, h1]; show _ = ((c.length + 1 : Nat) : Int); omega
  · show x :: c = rcl _ 12 (c.length + 1)
    rw [rcl_s, rcl_up (by omega), rcl_up (by omega), am_up_k (by omega), am_up_eq, ← h2]
  · show _ = (ops.length : Int)
    rw [am_up_k (by omega), am_up_k (by omega)]; exact h3
  · show ops = rcl _ 13 ops.length
    rw [rcl_up (by omega), rcl_up (by omega)]; exact h4
  all_goals (rw [am_up_k (by omega), am_up_k (by omega)]; first | exact h5 | exact h6 | exact h7 | exact h8 | exact h9)
theorem lx_is_push (h : lx_is σ (c, ops, o, b, g, due, cd)) (x : Int) : lx_is (lw_push σ x) (c, x :: ops, o, b, g, due, cd) := by
  obtain ⟨⟨h1, h2⟩, ⟨h3, h4⟩, h5, h6, h7, h8, h9⟩ := h
  have h1 : σ 9 8 = c.length := h1
  have h2 : c = rcl σ 12 c.length := h2
  have h3 : σ 9 9 = ops.length := h3
  have h4 : ops = rcl σ 13 ops.length := h4
  have ht : (σ 9 9).toNat = ops.length := by omega
  unfold lw_push
  rw [ht]
  refine ⟨⟨?_, ?_⟩, ⟨?_, ?_⟩, ?_, ?_, ?_, ?_, ?_⟩
  · show _ = (c.length : Int)
    rw [am_up_k (by omega), am_up_k (by omega)]; exact h1
  · show c = rcl _ 12 c.length
    rw [rcl_up (by omega), rcl_up (by omega)]; exact h2
  · rw [am_up_eq, h3]; show _ = ((ops.length + 1 : Nat) : Int); omega
  · show x :: ops = rcl _ 13 (ops.length + 1)
    rw [rcl_s, rcl_up (by omega), rcl_up (by omega), am_up_k (by omega), am_up_eq, ← h4]
  all_goals (rw [am_up_k (by omega), am_up_k (by omega)]; first | exact h5 | exact h6 | exact h7 | exact h8 | exact h9)
theorem lx_is_pop {p : Int} (h : lx_is σ (c, p :: ops, o, b, g, due, cd)) : lx_is (am_up σ 9 9 (σ 9 9 - 1)) (c, ops, o, b, g, due, cd) := by
  obtain ⟨⟨h1, h2⟩, ⟨h3, h4⟩, h5, h6, h7, h8, h9⟩ := h
  have h1 : σ 9 8 = c.length := h1
  have h2 : c = rcl σ 12 c.length := h2
  have h3 : σ 9 9 = ((ops.length + 1 : Nat) : Int) := h3
  have h4 : p :: ops = rcl σ 13 (ops.length + 1) := h4
  rw [rcl_s] at h4
  refine ⟨⟨?_, ?_⟩, ⟨?_, ?_⟩, ?_, ?_, ?_, ?_, ?_⟩
  · show _ = (c.length : Int)
    rw [am_up_k (by omega)]; exact h1
  · show c = rcl _ 12 c.length
    rw [rcl_up (by omega)]; exact h2
  · show _ = (ops.length : Int)
    rw [am_up_eq, h3]; omega
  · show ops = rcl _ 13 ops.length
    rw [rcl_up (by omega)]; exact (List.cons.inj h4).2
  all_goals (rw [am_up_k (by omega)]; first | exact h5 | exact h6 | exact h7 | exact h8 | exact h9)
theorem lx_is_top (h : lx_is σ (c, ops, o, b, g, due, cd)) (hn : 0 < σ 9 9) : ∃ ops', ops = σ 13 (σ 9 9 - 1).toNat :: ops' := by
  obtain ⟨⟨h1, h2⟩, ⟨h3, h4⟩, -⟩ := h
  have h3 : σ 9 9 = ops.length := h3
  have h4 : ops = rcl σ 13 ops.length := h4
  obtain ⟨m, hm⟩ : ∃ m, ops.length = m + 1 := ⟨ops.length - 1, by omega⟩
  rw [hm] at h4 h3
  refine ⟨rcl σ 13 m, ?_⟩
  rw [h4, rcl_s, show (σ 9 9 - 1).toNat = m by omega]
theorem lx_is_code (h : lx_is σ (c, ops, o, b, g, due, cd)) (hn : 0 < σ 9 8) : ∃ c', c = σ 12 (σ 9 8 - 1).toNat :: c' := by
  obtain ⟨⟨h1, h2⟩, -⟩ := h
  have h1 : σ 9 8 = c.length := h1
  have h2 : c = rcl σ 12 c.length := h2
  obtain ⟨m, hm⟩ : ∃ m, c.length = m + 1 := ⟨c.length - 1, by omega⟩
  rw [hm] at h1 h2
  refine ⟨rcl σ 12 m, ?_⟩
  rw [h2, rcl_s, show (σ 9 8 - 1).toNat = m by omega]
theorem lx_is_last {x : Int} (h : lx_is σ (x :: c, ops, o, b, g, due, cd)) (v : Int) : lx_is (am_up σ 12 (σ 9 8 - 1).toNat v) (v :: c, ops, o, b, g, due, cd) := by
  obtain ⟨⟨h1, h2⟩, ⟨h3, h4⟩, h5, h6, h7, h8, h9⟩ := h
  have h1 : σ 9 8 = ((c.length + 1 : Nat) : Int) := h1
  have h2 : x :: c = rcl σ 12 (c.length + 1) := h2
  have h3 : σ 9 9 = ops.length := h3
  have h4 : ops = rcl σ 13 ops.length := h4
  rw [rcl_s] at h2
  rw [show (σ 9 8 - 1).toNat = c.length by omega]
  refine ⟨⟨?_, ?_⟩, ⟨?_, ?_⟩, ?_, ?_, ?_, ?_, ?_⟩
  · rw [am_up_k (by omega)]; exact h1
  · show v :: c = rcl _ 12 (c.length + 1)
    rw [rcl_s, rcl_up (by omega), am_up_eq, ← (List.cons.inj h2).2]
  · show _ = (ops.length : Int)
    rw [am_up_k (by omega)]; exact h3
  · show ops = rcl _ 13 ops.length
    rw [rcl_up (by omega)]; exact h4
  all_goals (rw [am_up_k (by omega)]; first | exact h5 | exact h6 | exact h7 | exact h8 | exact h9)
theorem lx_is_f (h : lx_is σ (c, ops, o, b, g, due, cd)) {k : Nat} (v : Int) (hk : 10 ≤ k ∧ k ≤ 14) : lx_is (am_up σ 9 k v) (c, ops, if k = 10 then v else o, if k = 11 then v else b, if k = 12 then v else g, if k = 13 then v else due, if k = 14 then v else cd) := by
  obtain ⟨⟨h1, h2⟩, ⟨h3, h4⟩, h5, h6, h7, h8, h9⟩ := h
  have h1 : σ 9 8 = c.length := h1
  have h2 : c = rcl σ 12 c.length := h2
  have h3 : σ 9 9 = ops.length := h3
  have h4 : ops = rcl σ 13 ops.length := h4
  refine ⟨⟨?_, ?_⟩, ⟨?_, ?_⟩, ?_⟩
  · show _ = (c.length : Int)
    rw [am_up_k (by omega)]; exact h1
  · show c = rcl _ 12 c.length
    rw [rcl_up (by omega)]; exact h2
  · show _ = (ops.length : Int)
    rw [am_up_k (by omega)]; exact h3
  · show ops = rcl _ 13 ops.length
    rw [rcl_up (by omega)]; exact h4
  · have h5 : σ 9 10 = o := h5
    have h6 : σ 9 11 = b := h6
    have h7 : σ 9 12 = g := h7
    have h8 : σ 9 13 = due := h8
    have h9 : σ 9 14 = cd := h9
    show am_up σ 9 k v 9 10 = (if k = 10 then v else o) ∧ am_up σ 9 k v 9 11 = (if k = 11 then v else b) ∧ am_up σ 9 k v 9 12 = (if k = 12 then v else g) ∧ am_up σ 9 k v 9 13 = (if k = 13 then v else due) ∧ am_up σ 9 k v 9 14 = (if k = 14 then v else cd)
    rcases (show k = 10 ∨ k = 11 ∨ k = 12 ∨ k = 13 ∨ k = 14 by omega) with rfl | rfl | rfl | rfl | rfl <;> simp [am_up, h5, h6, h7, h8, h9]
theorem lx_is_f10 (h : lx_is σ (c, ops, o, b, g, due, cd)) (v : Int) : lx_is (am_up σ 9 10 v) (c, ops, v, b, g, due, cd) := by
  have h9 := lx_is_f h (k := 10) v (by decide)
  simpa using h9
theorem lx_is_f11 (h : lx_is σ (c, ops, o, b, g, due, cd)) (v : Int) : lx_is (am_up σ 9 11 v) (c, ops, o, v, g, due, cd) := by
  have h9 := lx_is_f h (k := 11) v (by decide)
  simpa using h9
theorem lx_is_f12 (h : lx_is σ (c, ops, o, b, g, due, cd)) (v : Int) : lx_is (am_up σ 9 12 v) (c, ops, o, b, v, due, cd) := by
  have h9 := lx_is_f h (k := 12) v (by decide)
  simpa using h9
theorem lx_is_f13 (h : lx_is σ (c, ops, o, b, g, due, cd)) (v : Int) : lx_is (am_up σ 9 13 v) (c, ops, o, b, g, v, cd) := by
  have h9 := lx_is_f h (k := 13) v (by decide)
  simpa using h9
theorem lx_is_f14 (h : lx_is σ (c, ops, o, b, g, due, cd)) (v : Int) : lx_is (am_up σ 9 14 v) (c, ops, o, b, g, due, v) := by
  have h9 := lx_is_f h (k := 14) v (by decide)
  simpa using h9
end LXIS
/-- what holds of the reader's states -/
def lx_cnt : List Int → Int
  | [] => 0
  | p :: ps => (if lx_rank p = 6 ∨ p = 40 then 1 else 0) + lx_cnt ps
def lx_cb : List Int → Int
  | [] => 0
  | p :: ps => (if p = 40 then 1 else 0) + lx_cb ps
theorem lx_cnt_bd : ∀ ops : List Int, 0 ≤ lx_cb ops ∧ lx_cb ops ≤ lx_cnt ops ∧ lx_cnt ops ≤ ops.length
  | [] => by decide
  | p :: ps => by
    have ih := lx_cnt_bd ps
    show 0 ≤ (if p = 40 then 1 else 0) + lx_cb ps ∧ (if p = 40 then 1 else 0) + lx_cb ps ≤ (if lx_rank p = 6 ∨ p = 40 then 1 else 0) + lx_cnt ps ∧ (if lx_rank p = 6 ∨ p = 40 then 1 else 0) + lx_cnt ps ≤ ((ps.length + 1 : Nat) : Int)
    by_cases h : p = 40
    · rw [if_pos h, if_pos (Or.inr h)]; omega
    · rw [if_neg h]
      split <;> omega
def lx_ok (at_ : Nat) : lx_S → Prop
  | (c, ops, o, b, g, due, cd) => (o = lx_cnt ops ∧ b = lx_cb ops ∧ ∀ p ∈ ops, 1 ≤ lx_rank p ∨ p = 40) ∧ o ≤ 6 ∧ (due = 0 → 0 ≤ g ∧ g ≤ 3) ∧ (due = 0 ∨ due = 1) ∧ (cd = 0 ∨ cd = 1) ∧ (due = 0 → 0 < g → 0 < c.length ∧ 0 ≤ c.headD 0 ∧ (g = 3 → c.headD 0 ≤ 9) ∧ (g = 2 → c.headD 0 ≤ 99) ∧ (g = 1 → c.headD 0 ≤ 999)) ∧ c.length + ops.length ≤ at_
theorem lx_set_ok {r : Int} (hr : 1 ≤ r) : ∀ (ops c : List Int) (o : Int), (∀ p ∈ ops, 1 ≤ lx_rank p ∨ p = 40) →
    (lx_set r c ops o).2.2 - lx_cnt (lx_set r c ops o).2.1 = o - lx_cnt ops ∧ lx_cb (lx_set r c ops o).2.1 = lx_cb ops ∧ (∀ p ∈ (lx_set r c ops o).2.1, 1 ≤ lx_rank p ∨ p = 40) ∧ (lx_set r c ops o).1.length + (lx_set r c ops o).2.1.length = c.length + ops.length ∧ lx_rank ((lx_set r c ops o).2.1.headD 0) < r
  | [], c, o, _ => ⟨rfl, rfl, (fun p hp => by cases hp), rfl, by show lx_rank 0 < r; rw [show lx_rank 0 = 0 from rfl]; omega⟩
  | p :: ps, c, o, h => by
    unfold lx_set
    by_cases hp : r ≤ lx_rank p
    · rw [if_pos hp]
      obtain ⟨i1, i2, i3, i4, i5⟩ := lx_set_ok hr ps ((20000 + p) :: c) (if lx_rank p = 6 then o - 1 else o) (fun q hq => h q (List.mem_cons_of_mem _ hq))
      have h40 : p ≠ 40 := by
        intro q; subst q
        have : lx_rank 40 = 0 := rfl
        omega
      refine ⟨?_, ?_, i3, ?_, i5⟩
      · rw [i1]
        show _ = o - ((if lx_rank p = 6 ∨ p = 40 then 1 else 0) + lx_cnt ps)
        by_cases h6 : lx_rank p = 6
        · rw [if_pos h6, if_pos (Or.inl h6)]; omega
        · rw [if_neg h6, if_neg (by omega)]; omega
      · rw [i2]
        show _ = (if p = 40 then 1 else 0) + lx_cb ps
        rw [if_neg h40]; omega
      · rw [i4]
        show c.length + 1 + ps.length = c.length + (ps.length + 1)
        omega
    · rw [if_neg hp]
      exact ⟨rfl, rfl, h, rfl, by show lx_rank p < r; omega⟩
theorem lx_cb_hd {ops : List Int} (h : 0 < lx_cb ops) (hr : lx_rank (ops.headD 0) < 1) (ho : ∀ p ∈ ops, 1 ≤ lx_rank p ∨ p = 40) : ∃ ps, ops = 40 :: ps := by
  cases ops with
  | nil => exact absurd h (by decide)
  | cons p ps =>
    have h1 := ho p List.mem_cons_self
    have hr : lx_rank p < 1 := hr
    exact ⟨ps, by rw [show p = 40 by omega]⟩
theorem lx_set_cnt {r : Int} : ∀ (ops c : List Int) (o : Int), lx_cnt (lx_set r c ops o).2.1 ≤ lx_cnt ops
  | [], c, o => Int.le_refl _
  | p :: ps, c, o => by
    rw [lx_set]
    have hc : lx_cnt (p :: ps) = (if lx_rank p = 6 ∨ p = 40 then 1 else 0) + lx_cnt ps := rfl
    have h01 : 0 ≤ (if lx_rank p = 6 ∨ p = 40 then (1 : Int) else 0) := by split <;> omega
    by_cases hp : r ≤ lx_rank p
    · rw [if_pos hp]
      have := lx_set_cnt (r := r) ps ((20000 + p) :: c) (if lx_rank p = 6 then o - 1 else o)
      omega
    · rw [if_neg hp]; exact Int.le_refl _
theorem lx_ok_step {k : Nat} {S S' : lx_S} {x : Int} (h : lx_ok k S) (hs : lx_step S x = some S') : lx_ok (k + 1) S' := by
  obtain ⟨c, ops, o, b, g, due, cd⟩ := S
  obtain ⟨⟨h1, h2, h3⟩, h4, h5, h6, h7, h8, h9⟩ := h
  have hbd := lx_cnt_bd ops
  rw [lx_step] at hs
  by_cases hd : due ≠ 0
  · rw [if_pos hd] at hs
    by_cases hx : 48 ≤ x ∧ x ≤ 57
    · rw [if_pos hx] at hs; cases hs
      exact ⟨⟨h1, h2, h3⟩, h4, by omega, Or.inl rfl, h7, fun _ _ => ⟨by show 0 < c.length + 1; omega, by show 0 ≤ x - 48; omega, fun _ => by show x - 48 ≤ 9; omega, fun q => by omega, fun q => by omega⟩, by show c.length + 1 + ops.length ≤ k + 1; omega⟩
    · rw [if_neg hx] at hs
      by_cases hn : 0 ≤ lx_name x
      · rw [if_pos hn] at hs; cases hs
        exact ⟨⟨h1, h2, h3⟩, h4, by omega, Or.inl rfl, h7, fun _ q => absurd q (by decide), by show c.length + 1 + ops.length ≤ k + 1; omega⟩
      · rw [if_neg hn] at hs
        by_cases ho : ¬ (x = 40 ∨ x = 33 ∨ x = 45) ∨ 6 ≤ o
        · rw [if_pos ho] at hs; cases hs
        · rw [if_neg ho] at hs; cases hs
          have hx3 : x = 40 ∨ x = 33 ∨ x = 45 := by omega
          refine ⟨⟨?_, ?_, ?_⟩, by omega, h5, h6, h7, fun q => absurd q hd, by show c.length + (ops.length + 1) ≤ k + 1; omega⟩
          · show o + 1 = (if lx_rank (if x = 45 then 126 else x) = 6 ∨ (if x = 45 then 126 else x) = 40 then 1 else 0) + lx_cnt ops
            rcases hx3 with rfl | rfl | rfl
            · rw [if_pos (by decide)]; omega
            · rw [if_pos (by decide)]; omega
            · rw [if_pos (by decide)]; omega
          · show (if x = 40 then b + 1 else b) = (if (if x = 45 then 126 else x) = 40 then 1 else 0) + lx_cb ops
            rcases hx3 with rfl | rfl | rfl
            · rw [if_pos (by decide), if_pos (by decide)]; omega
            · rw [if_neg (by decide), if_neg (by decide)]; omega
            · rw [if_neg (by decide), if_neg (by decide)]; omega
          · intro p hp
            rcases List.mem_cons.mp hp with rfl | hp
            · rcases hx3 with rfl | rfl | rfl
              · exact Or.inr (by decide)
              · exact Or.inl (by decide)
              · exact Or.inl (by decide)
            · exact h3 p hp
  · have hd0 : due = 0 := by omega
    rw [if_neg hd] at hs
    by_cases hx : 48 ≤ x ∧ x ≤ 57
    · rw [if_pos hx] at hs
      by_cases hg : g = 0
      · rw [if_pos hg] at hs; cases hs
      · rw [if_neg hg] at hs; cases hs
        obtain ⟨i1, i2, i3, i4, i5⟩ := h8 hd0 (by omega)
        refine ⟨⟨h1, h2, h3⟩, h4, by omega, h6, h7, fun _ q => ⟨Nat.succ_pos _, ?_, ?_, ?_, ?_⟩, ?_⟩
        · show 0 ≤ c.headD 0 * 10 + (x - 48); omega
        · intro q; omega
        · intro q; show c.headD 0 * 10 + (x - 48) ≤ 99; have := i3 (by omega); omega
        · intro q; show c.headD 0 * 10 + (x - 48) ≤ 999; have := i4 (by omega); omega
        · show c.tail.length + 1 + ops.length ≤ k + 1
          rw [List.length_tail]; omega
    · rw [if_neg hx] at hs
      by_cases h41 : x = 41
      · rw [if_pos h41] at hs
        by_cases hb : b = 0
        · rw [if_pos hb] at hs; cases hs
        · rw [if_neg hb] at hs; cases hs
          obtain ⟨j1, j2, j3, j4, j5⟩ := lx_set_ok (Int.le_refl 1) ops c o h3
          obtain ⟨ps, hps⟩ := lx_cb_hd (by omega) j5 j3
          rw [hps] at j1 j2 j3 j4 ⊢
          have e1 : lx_cnt (40 :: ps) = 1 + lx_cnt ps := rfl
          have e2 : lx_cb (40 :: ps) = 1 + lx_cb ps := rfl
          have e3 : (40 :: ps).length = ps.length + 1 := rfl
          refine ⟨⟨?_, ?_, fun p hp => j3 p (List.mem_cons_of_mem _ hp)⟩, ?_, by omega, h6, h7, fun _ q => absurd q (by decide), ?_⟩
          · show (lx_set 1 c ops o).2.2 - 1 = lx_cnt ps; omega
          · show b - 1 = lx_cb ps; omega
          · have := lx_cnt_bd ps
            rw [e1] at j1
            have hle : lx_cnt ps ≤ lx_cnt ops := by
              have := lx_set_cnt (r := 1) ops c o
              rw [hps, e1] at this
              omega
            omega
          · show (lx_set 1 c ops o).1.length + ps.length ≤ k + 1; omega
      · rw [if_neg h41] at hs
        by_cases hq : x = 59 ∨ x = 63
        · rw [if_pos hq] at hs
          by_cases hb : 0 < b ∨ (x = 63 ∧ cd ≠ 0)
          · rw [if_pos hb] at hs; cases hs
          · rw [if_neg hb] at hs; cases hs
            obtain ⟨j1, j2, j3, j4, j5⟩ := lx_set_ok (Int.le_refl 1) ops c o h3
            have hc := lx_set_cnt (r := 1) ops c o
            refine ⟨⟨by omega, by omega, j3⟩, by omega, fun q => absurd q (by decide), Or.inr rfl, ?_, fun q => absurd q (by decide), ?_⟩
            · split
              · exact Or.inr rfl
              · exact Or.inl rfl
            · show (lx_set 1 c ops o).1.length + 1 + _ ≤ k + 1; omega
        · rw [if_neg hq] at hs
          by_cases hr : lx_rank x = 0 ∨ lx_rank x = 6
          · rw [if_pos hr] at hs; cases hs
          · rw [if_neg hr] at hs
            have hrb := lx_rank_bd x
            generalize hrr : (if lx_rank x = 3 then 4 else lx_rank x) = r at hs
            have hr1 : 1 ≤ r := by rw [← hrr]; split <;> omega
            obtain ⟨j1, j2, j3, j4, j5⟩ := lx_set_ok hr1 ops c o h3
            have hc := lx_set_cnt (r := r) ops c o
            by_cases h33 : lx_rank x = 3 ∧ lx_rank ((lx_set r c ops o).2.1.headD 0) = 3
            · rw [if_pos h33] at hs; cases hs
            · rw [if_neg h33] at hs; cases hs
              have hx40 : x ≠ 40 := by intro q; subst q; exact hr (Or.inl rfl)
              have e1 : lx_cnt (x :: (lx_set r c ops o).2.1) = lx_cnt (lx_set r c ops o).2.1 := by
                show (if lx_rank x = 6 ∨ x = 40 then 1 else 0) + _ = _
                rw [if_neg (by omega)]; omega
              have e2 : lx_cb (x :: (lx_set r c ops o).2.1) = lx_cb (lx_set r c ops o).2.1 := by
                show (if x = 40 then 1 else 0) + _ = _
                rw [if_neg hx40]; omega
              refine ⟨⟨by rw [e1]; omega, by rw [e2]; omega, fun p hp => ?_⟩, by omega, fun q => absurd q (by decide), Or.inr rfl, h7, fun q => absurd q (by decide), ?_⟩
              · rcases List.mem_cons.mp hp with rfl | hp
                · exact Or.inl (by omega)
                · exact j3 p hp
              · show (lx_set r c ops o).1.length + ((lx_set r c ops o).2.1.length + 1) ≤ k + 1; omega
theorem lx_rank_in {x : Int} (h : 1 ≤ lx_rank x) : 33 ≤ x ∧ x ≤ 126 := by
  unfold lx_rank at h
  (repeat' split at h) <;> omega
def lx_N (d l s p q : Int) (k : Nat) : Int := if k = 0 then d else if k = 1 then d / 4 else if k = 2 then l else if k = 3 then s else if k = 4 then p else q
section LXEX
variable {N : Nat → Int} {c v : Int} {cs s : List Int}
theorem lx_ex_q (hc : c = 20063) (h : lx_ex N (c :: cs) s 0 = some v) : ∃ x s', s = x :: s' ∧ lx_ex N cs s' (if x = 0 then 1 else 0) = some v := by
  subst hc
  rw [lx_ex_c, if_neg (by decide), if_neg (by decide), if_neg (by decide), if_neg (by decide), if_neg (by decide), if_pos rfl] at h
  cases s with
  | nil => cases h
  | cons x s' => exact ⟨x, s', rfl, h⟩
theorem lx_ex_1 (hc : 20000 ≤ c ∧ c ≠ 20059 ∧ c ≠ 20063) (hr : lx_rank (c - 20000) = 6) (h : lx_ex N (c :: cs) s 0 = some v) : ∃ x s', s = x :: s' ∧ lx_ex N cs (lx_op1 (c - 20000) x :: s') 0 = some v := by
  rw [lx_ex_c, if_neg (by decide), if_neg (by omega), if_neg (by omega), if_neg (by omega), if_neg (by omega), if_neg (by omega), if_pos hr] at h
  cases s with
  | nil => cases h
  | cons x s' => exact ⟨x, s', rfl, h⟩
theorem lx_ex_2 (hc : 20000 ≤ c ∧ c ≠ 20059 ∧ c ≠ 20063) (hr : lx_rank (c - 20000) ≠ 6) (h : lx_ex N (c :: cs) s 0 = some v) : ∃ y x s', s = y :: x :: s' ∧ lx_ex N cs (lx_op2 (c - 20000) x y :: s') 0 = some v := by
  rw [lx_ex_c, if_neg (by decide), if_neg (by omega), if_neg (by omega), if_neg (by omega), if_neg (by omega), if_neg (by omega), if_neg hr] at h
  cases s with
  | nil => cases h
  | cons y s' =>
    cases s' with
    | nil => cases h
    | cons x s' => exact ⟨y, x, s', rfl, h⟩
theorem lx_ex_e (hc : c = 20059) (h : lx_ex N (c :: cs) s 0 = some v) : ∃ s', s = v :: s' := by
  subst hc
  rw [lx_ex_c, if_neg (by decide), if_neg (by decide), if_neg (by decide), if_neg (by decide), if_pos rfl] at h
  cases s with
  | nil => cases h
  | cons x s' => exact ⟨s', by rw [Option.some.inj (show some x = some v from h)]⟩
theorem lx_ex_n (hc : c < 10000) (h : lx_ex N (c :: cs) s 0 = some v) : lx_ex N cs (c :: s) 0 = some v := by
  rw [lx_ex_c, if_neg (by decide), if_pos hc] at h
  exact h
theorem lx_ex_m (hc : 10000 ≤ c ∧ c < 20000) (h : lx_ex N (c :: cs) s 0 = some v) : c < 10006 ∧ lx_ex N cs (N (c - 10000).toNat :: s) 0 = some v := by
  rw [lx_ex_c, if_neg (by decide), if_neg (by omega)] at h
  by_cases h6 : c < 10006
  · rw [if_pos h6] at h
    exact ⟨h6, h⟩
  · rw [if_neg h6, if_pos hc.2] at h
    cases h
theorem lx_ex_p {p : Int} (hp : p ≠ 0) (h : lx_ex N (c :: cs) s p = some v) : lx_ex N cs s (if c ≠ 20059 then 1 else 0) = some v := by
  rw [lx_ex_c, if_pos hp] at h
  exact h
theorem lx_ex_top (hc : 20000 ≤ c) (h : lx_ex N (c :: cs) s 0 = some v) : (if lx_rank (c - 20000) = 0 ∨ lx_rank (c - 20000) = 6 then (1 : Int) else 2) ≤ (s.length : Int) := by
  by_cases h1 : c = 20059
  · obtain ⟨s', hs⟩ := lx_ex_e h1 h
    have hl : s.length = s'.length + 1 := by rw [hs]; rfl
    subst h1
    rw [if_pos (show lx_rank (20059 - 20000) = 0 ∨ lx_rank (20059 - 20000) = 6 from Or.inl rfl)]; omega
  · by_cases h2 : c = 20063
    · obtain ⟨x, s', hs, -⟩ := lx_ex_q h2 h
      have hl : s.length = s'.length + 1 := by rw [hs]; rfl
      subst h2
      rw [if_pos (show lx_rank (20063 - 20000) = 0 ∨ lx_rank (20063 - 20000) = 6 from Or.inl rfl)]; omega
    · by_cases h3 : lx_rank (c - 20000) = 6
      · obtain ⟨x, s', hs, -⟩ := lx_ex_1 ⟨hc, h1, h2⟩ h3 h
        have hl : s.length = s'.length + 1 := by rw [hs]; rfl
        rw [if_pos (Or.inr h3)]; omega
      · obtain ⟨y, x, s', hs, -⟩ := lx_ex_2 ⟨hc, h1, h2⟩ h3 h
        have hl : s.length = s'.length + 1 + 1 := by rw [hs]; rfl
        split <;> omega
end LXEX
theorem lx_st_push {τ : am_H} {s : List Int} {x : Int} {k : Nat} (h : s = rcl τ 14 s.length) (hk : k = s.length) : x :: s = rcl (am_up τ 14 k x) 14 (x :: s).length := by
  subst hk
  show x :: s = rcl _ 14 (s.length + 1)
  rw [rcl_s, am_up_eq, rcl_up (Or.inr (Nat.le_refl _)), ← h]
theorem lx_st_pop {τ : am_H} {s s' : List Int} {x : Int} (h : s = rcl τ 14 s.length) (hs : s = x :: s') : τ 14 s'.length = x ∧ s' = rcl τ 14 s'.length ∧ s.length = s'.length + 1 := by
  subst hs
  have h : x :: s' = rcl τ 14 (s'.length + 1) := h
  rw [rcl_s] at h
  exact ⟨(List.cons.inj h).1.symm, (List.cons.inj h).2, rfl⟩
theorem lx_drop {σ : am_H} {rc : List Int} {a : Nat} (h : rc = rcl σ 11 rc.length) (ha : a < rc.length) : rc.reverse.drop a = σ 11 a :: rc.reverse.drop (a + 1) := by
  have hl : a < rc.reverse.length := by rw [List.length_reverse]; exact ha
  rw [rcl_eq h ha, List.drop_eq_getElem_cons hl, List.getD_eq_getElem?_getD, List.getElem?_eq_getElem hl]; rfl
theorem lx_last {σ : am_H} {rc : List Int} {a : Nat} (h : rc = rcl σ 11 rc.length) (hh : rc.headD 0 = 20059 ∨ rc.length = 0) (ha : a + 1 = rc.length) : σ 11 a = 20059 := by
  rw [← ha] at h
  rcases hh with hh | hh
  · rw [h, rcl_s] at hh
    exact hh
  · omega
/-- alike but for the digits to come, as an operand is due -/
def lx_ge (S S' : lx_S) : Prop := S = S' ∨ (S.1 = S'.1 ∧ S.2.1 = S'.2.1 ∧ S.2.2.1 = S'.2.2.1 ∧ S.2.2.2.1 = S'.2.2.2.1 ∧ S.2.2.2.2.2 = S'.2.2.2.2.2 ∧ S.2.2.2.2.2.1 ≠ 0)
theorem lx_ge_step {S S' : lx_S} (h : lx_ge S S') (x : Int) : (lx_step S x = none ∧ lx_step S' x = none) ∨ ∃ U U', lx_step S x = some U ∧ lx_step S' x = some U' ∧ lx_ge U U' := by
  rcases h with rfl | ⟨h1, h2, h3, h4, h5, h6⟩
  · cases hs : lx_step S x with
    | none => exact Or.inl ⟨rfl, rfl⟩
    | some U => exact Or.inr ⟨U, U, rfl, rfl, Or.inl rfl⟩
  · obtain ⟨c, ops, o, b, g, due, cd⟩ := S
    obtain ⟨c', ops', o', b', g', due', cd'⟩ := S'
    have h1 : c = c' := h1
    have h2 : ops = ops' := h2
    have h3 : o = o' := h3
    have h4 : b = b' := h4
    have h5 : (due, cd) = (due', cd') := h5
    have h6 : due ≠ 0 := h6
    obtain ⟨rfl, rfl⟩ := Prod.mk.inj h5
    subst h1 h2 h3 h4
    rw [lx_step, lx_step, if_pos h6, if_pos h6]
    by_cases hx : 48 ≤ x ∧ x ≤ 57
    · rw [if_pos hx, if_pos hx]; exact Or.inr ⟨_, _, rfl, rfl, Or.inl rfl⟩
    · rw [if_neg hx, if_neg hx]
      by_cases hn : 0 ≤ lx_name x
      · rw [if_pos hn, if_pos hn]; exact Or.inr ⟨_, _, rfl, rfl, Or.inl rfl⟩
      · rw [if_neg hn, if_neg hn]
        by_cases ho : ¬ (x = 40 ∨ x = 33 ∨ x = 45) ∨ 6 ≤ o
        · rw [if_pos ho, if_pos ho]; exact Or.inl ⟨rfl, rfl⟩
        · rw [if_neg ho, if_neg ho]; exact Or.inr ⟨_, _, rfl, rfl, Or.inr ⟨rfl, rfl, rfl, rfl, rfl, h6⟩⟩
theorem lx_ge_run {T : Nat → Int} : ∀ (k i : Nat) (S S' U : lx_S), lx_ge S S' → lx_run T k i S = some U → ∃ U', lx_run T k i S' = some U' ∧ lx_ge U U'
  | 0, i, S, S', U, h, hr => by
    cases hr
    exact ⟨S', rfl, h⟩
  | k + 1, i, S, S', U, h, hr => by
    rw [lx_run] at hr ⊢
    rcases lx_ge_step h (T i) with ⟨h1, h2⟩ | ⟨V, V', h1, h2, h3⟩
    · rw [h1] at hr; cases hr
    · rw [h1] at hr
      rw [h2]
      exact lx_ge_run k (i + 1) V V' U h3 hr
def lx_0g (g : Int) : lx_S := ([], [], 0, 0, g, 1, 0)
theorem lx_run_g {T : Nat → Int} {k : Nat} {g : Int} {U : lx_S} (h : lx_run T k 0 (lx_0g g) = some U) : ∃ U', lx_run T k 0 lx_0 = some U' ∧ lx_ge U U' :=
  lx_ge_run k 0 (lx_0g g) lx_0 U (Or.inr ⟨rfl, rfl, rfl, rfl, rfl, show (1 : Int) ≠ 0 by decide⟩) h
theorem lx_ge_no {S S' : lx_S} {x : Int} (h : lx_ge S S') (hs : lx_step S x = none) : lx_step S' x = none := by
  rcases lx_ge_step h x with ⟨-, h2⟩ | ⟨V, V', h1, h2, h3⟩
  · exact h2
  · rw [hs] at h1; cases h1
theorem lx_ge_d {S S' : lx_S} (h : lx_ge S S') : lx_due S' = lx_due S ∧ lx_brk S' = lx_brk S := by
  rcases h with rfl | ⟨h1, h2, h3, h4, h5, h6⟩
  · exact ⟨rfl, rfl⟩
  · unfold lx_due lx_brk
    rw [h4, h5]
    exact ⟨rfl, rfl⟩
theorem lx_ge_bad {T : Nat → Int} {n f : Nat} {g : Int} {U : lx_S} (hf : f ≤ n) (h : lx_run T f 0 (lx_0g g) = some U) (he : (f < n ∧ lx_step U (T f) = none) ∨ (f = n ∧ (lx_due U ≠ 0 ∨ 0 < lx_brk U))) : lx_bad T n f := by
  obtain ⟨U', h1, h2⟩ := lx_run_g h
  refine ⟨hf, U', h1, ?_⟩
  rcases he with ⟨a, b⟩ | ⟨a, b⟩
  · exact Or.inl ⟨a, lx_ge_no h2 b⟩
  · refine Or.inr ⟨a, ?_⟩
    rw [(lx_ge_d h2).1, (lx_ge_d h2).2]
    exact b
theorem lx_ge_cmp {T : Nat → Int} {n : Nat} {g0 : Int} {c ops : List Int} {o b g due cd : Int} (h : lx_run T n 0 (lx_0g g0) = some (c, ops, o, b, g, due, cd)) (hd : ¬ (due ≠ 0 ∨ 0 < b)) : lx_cmp T n = some (20059 :: (lx_set 1 c ops o).1) := by
  obtain ⟨U', h1, h2⟩ := lx_run_g h
  rcases h2 with h2 | ⟨-, -, -, -, -, h6⟩
  · subst h2
    unfold lx_cmp
    rw [h1]
    exact if_neg hd
  · exact absurd (Or.inl h6) hd
