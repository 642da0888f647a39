/-! rings: both halves find the same -/
theorem rg_nd {o : Nat → Nat} : ∀ l : List Nat, (l.map o).Nodup → l.Nodup
  | [], _ => List.nodup_nil
  | a :: l, h => by
    have h : (o a :: l.map o).Nodup := h
    rw [List.nodup_cons] at h ⊢
    exact ⟨fun hm => h.1 (List.mem_map.mpr ⟨a, hm, rfl⟩), rg_nd l h.2⟩
theorem rg_pc_V : ∀ (es : List Nat) (s : Nat), es.Nodup → (∀ k, k ∈ es → k < 20 ∧ s.testBit k = false) → rg_pc 20 (rg_V s es) = rg_pc 20 s + es.length
  | [], s, _, _ => by rw [List.length_nil, Nat.add_zero, rg_V]
  | k :: es, s, h, hk => by
    rw [List.nodup_cons] at h
    have h1 := hk k (by simp)
    rw [rg_V]
    rw [rg_pc_V es (s ||| 2 ^ k) h.2 (fun j hj => ⟨(hk j (by simp [hj])).1, by
      rw [Nat.testBit_or, (hk j (by simp [hj])).2, Nat.testBit_two_pow, Bool.false_or, decide_eq_false_iff_not]
      exact fun e => h.1 (e ▸ hj)⟩), rg_pc_or 20 s k h1.1 h1.2, List.length_cons]
    omega
theorem rg_pc_R {o w : Nat → Nat} {kd : Nat → Int} {op : Nat → Prop} {n : Nat} {l : List Nat} (hn : n ≤ 20) (h : rg_R o w kd op n false l) : rg_pc 20 (rg_V0 l) = l.length := by
  have hF := rg_F_R.mpr h
  have hnd := rg_nd l hF.2.2
  obtain ⟨⟨c, hm⟩, -⟩ := hF
  cases l with
  | nil => exact h.elim
  | cons a es =>
    rw [List.nodup_cons] at hnd
    show rg_pc 20 (rg_V (2 ^ a) es) = es.length + 1
    have ha := (hm a (by simp)).1
    rw [rg_pc_V es (2 ^ a) hnd.2 (fun k hk => ⟨by have := (hm k (by simp [hk])).1; omega, by
      rw [Nat.testBit_two_pow, decide_eq_false_iff_not]; exact fun e => hnd.1 (e ▸ hk)⟩)]
    have := rg_pc_1 (k := a) (by omega)
    omega
theorem rg_wy_congr {o w o' w' : Nat → Nat} {kd kd' : Nat → Int} {op op' : Nat → Prop} {n lo first : Nat} (h : ∀ k, k < n → o k = o' k ∧ w k = w' k ∧ kd k = kd' k ∧ (op k ↔ op' k)) (hf : first < n) : ∀ (es : List Nat) (last v : Nat), last < n → (rg_wy o w kd op n lo first last v es ↔ rg_wy o' w' kd' op' n lo first last v es)
  | [], last, v, hl => by
    show w last = o first ↔ w' last = o' first
    rw [(h last hl).2.1, (h first hf).1]
  | k :: es, last, v, hl => by
    show (v.testBit (w last) = false ∧ rg_ok kd op n lo first k ∧ o k = w last ∧ rg_wy o w kd op n lo first k (v ||| 2 ^ w last) es) ↔ (v.testBit (w' last) = false ∧ rg_ok kd' op' n lo first k ∧ o' k = w' last ∧ rg_wy o' w' kd' op' n lo first k (v ||| 2 ^ w' last) es)
    rw [(h last hl).2.1]
    by_cases hk : k < n
    · have hh := h k hk
      rw [rg_wy_congr h hf es k _ hk, hh.1]
      unfold rg_ok
      rw [hh.2.2.1, (h first hf).2.2.1, hh.2.2.2]
    · exact ⟨fun q => absurd q.2.1.1 hk, fun q => absurd q.2.1.1 hk⟩
theorem rg_R_congr {o w o' w' : Nat → Nat} {kd kd' : Nat → Int} {op op' : Nat → Prop} {n : Nat} {b : Bool} (h : ∀ k, k < n → o k = o' k ∧ w k = w' k ∧ kd k = kd' k ∧ (op k ↔ op' k)) (l : List Nat) : rg_R o w kd op n b l ↔ rg_R o' w' kd' op' n b l := by
  cases l with
  | nil => exact Iff.rfl
  | cons a es =>
    show ((a < n ∧ op a) ∧ rg_wy o w kd op n _ a a (2 ^ o a) es) ↔ ((a < n ∧ op' a) ∧ rg_wy o' w' kd' op' n _ a a (2 ^ o' a) es)
    by_cases ha : a < n
    · rw [rg_wy_congr h ha es a _ ha, (h a ha).1, (h a ha).2.2.2]
    · exact ⟨fun q => absurd q.1.1 ha, fun q => absurd q.1.1 ha⟩
theorem rg_same {o w : Nat → Nat} {kd : Nat → Int} {op : Nat → Prop} {n x : Nat} {y : Int} (hn : n ≤ 20) (hne : ∀ k, k < n → o k ≠ w k)
    (hx : (x = 0 ∧ ∀ l, rg_R o w kd op n true l → 2 ≤ l.length → 6 ≤ l.length) ∨ (∃ l, rg_R o w kd op n true l ∧ 2 ≤ l.length ∧ l.length ≤ 5 ∧ x = rg_V0 l ∧ 0 < x ∧ ∀ l', rg_R o w kd op n true l' → 2 ≤ l'.length → l.length < l'.length ∨ (l'.length = l.length ∧ x ≤ rg_V0 l')))
    (hy : rg_mb (-2) y (fun l => l.length ≤ 5 ∧ rg_R o w kd op n false l) rg_V0) : (x = 0 ∧ y = -2) ∨ (0 < x ∧ y = (x : Int)) := by
  have h2 : ∀ l, rg_R o w kd op n false l → 2 ≤ l.length := fun l hl => by
    match l, hl with
    | [], hl => exact hl.elim
    | [a], hl => exact absurd (show w a = o a from hl.2).symm (hne a hl.1.1)
    | a :: b :: es, _ => simp
  rcases hx with ⟨h0, h⟩ | ⟨l1, hR, h21, h51, hv, hpos, h⟩
  · refine Or.inl ⟨h0, ?_⟩
    rcases hy.1 with q | ⟨l2, q, -⟩
    · exact q
    · obtain ⟨l', hR', hlen, -⟩ := rg_turn q.2
      have := h l' hR' (by rw [hlen]; exact h2 l2 q.2)
      have := q.1; omega
  · refine Or.inr ⟨hpos, ?_⟩
    have hb := hy.2.2 l1 ⟨h51, rg_R_low hR⟩
    rw [← hv] at hb
    have hp1 := rg_pc_R hn (rg_R_low hR)
    rw [← hv] at hp1
    rcases hy.1 with q | ⟨l2, q, hy2⟩
    · rw [q] at hb; unfold rg_bl at hb; omega
    · obtain ⟨l', hR', hlen, hv'⟩ := rg_turn q.2
      have hl2 := h2 l2 q.2
      have hcmp := h l' hR' (by omega)
      have hp2 := rg_pc_R hn q.2
      rw [hv'] at hcmp
      rw [hy2] at hb ⊢
      unfold rg_bl at hb
      rw [Int.toNat_natCast, Int.toNat_natCast, hp1, hp2] at hb
      omega
