/-! the rows as they are used: numbers that stay in range, places by natural numbers -/
abbrev am_b (r : Int) (P : Prop) : Prop := (r = 1 ∧ P) ∨ (r = 0 ∧ ¬ P)
theorem am_b_of {P : Prop} [Decidable P] : am_b (if P then 1 else 0) P := by
  by_cases h : P
  · rw [if_pos h]; exact Or.inl ⟨rfl, h⟩
  · rw [if_neg h]; exact Or.inr ⟨rfl, h⟩
theorem am_b1 {r : Int} {P : Prop} (h : am_b r P) (hr : r ≠ 0) : P := by
  rcases h with h | h
  · exact h.2
  · exact absurd h.1 hr
theorem am_b0 {r : Int} {P : Prop} (h : am_b r P) (hr : r = 0) : ¬ P := by
  rcases h with h | h
  · omega
  · exact h.2
theorem am_bz {r : Int} {P : Prop} (h : am_b r P) : r = 0 ∨ r = 1 := by
  rcases h with h | h
  · exact Or.inr h.1
  · exact Or.inl h.1
theorem am_bt {P : Prop} (h : P) : am_b 1 P := Or.inl ⟨rfl, h⟩
theorem am_bf {P : Prop} (h : ¬ P) : am_b 0 P := Or.inr ⟨rfl, h⟩
theorem am_bi {r : Int} {P Q : Prop} (h : am_b r P) (e : P ↔ Q) : am_b r Q := by
  rcases h with h | h
  · exact Or.inl ⟨h.1, e.mp h.2⟩
  · exact Or.inr ⟨h.1, fun q => h.2 (e.mpr q)⟩
theorem am_tdiv {a b : Int} (ha : 0 ≤ a) : a.tdiv b = a / b := Int.tdiv_eq_ediv_of_nonneg ha
theorem am_tmod {a b : Int} (ha : 0 ≤ a) : a.tmod b = a % b := Int.tmod_eq_emod_of_nonneg ha
section AMU
variable {K : am_K} {cc : ByteArray} {own : String} {pc : Nat} {L : List (Option am_V)} {st : List am_V} {sh : List am_S} {σ : am_H}
theorem am_ic (X : am_X K cc own) {n : Int} (hn : -2147483648 ≤ n ∧ n < 2147483648) (hd : decode cc pc = .ok (.iconst n, 1)) (k : am_G K (pc + 1) L (vi n :: st) sh σ) : am_G K pc L st sh σ := by
  have e : w32 n = n := w32_eq hn
  exact am_iconst X hd (by rw [e]; exact k)
theorem am_add (X : am_X K cc own) {a b v : Int} (hv : a + b = v) (hr : -2147483648 ≤ v ∧ v < 2147483648) (hd : decode cc pc = .ok (.iadd, 1)) (k : am_G K (pc + 1) L (vi v :: st) sh σ) : am_G K pc L (vi b :: vi a :: st) sh σ := by
  subst hv
  have e : w32 (a + b) = a + b := w32_eq hr
  exact am_iadd X hd (by rw [e]; exact k)
theorem am_sub (X : am_X K cc own) {a b v : Int} (hv : a - b = v) (hr : -2147483648 ≤ v ∧ v < 2147483648) (hd : decode cc pc = .ok (.isub, 1)) (k : am_G K (pc + 1) L (vi v :: st) sh σ) : am_G K pc L (vi b :: vi a :: st) sh σ := by
  subst hv
  have e : w32 (a - b) = a - b := w32_eq hr
  exact am_isub X hd (by rw [e]; exact k)
theorem am_mul (X : am_X K cc own) {a b v : Int} (hv : a * b = v) (hr : -2147483648 ≤ v ∧ v < 2147483648) (hd : decode cc pc = .ok (.imul, 1)) (k : am_G K (pc + 1) L (vi v :: st) sh σ) : am_G K pc L (vi b :: vi a :: st) sh σ := by
  subst hv
  have e : w32 (a * b) = a * b := w32_eq hr
  exact am_imul X hd (by rw [e]; exact k)
theorem am_neg (X : am_X K cc own) {a v : Int} (hv : -a = v) (hr : -2147483648 ≤ v ∧ v < 2147483648) (hd : decode cc pc = .ok (.ineg, 1)) (k : am_G K (pc + 1) L (vi v :: st) sh σ) : am_G K pc L (vi a :: st) sh σ := by
  subst hv
  have e : w32 (-a) = -a := w32_eq hr
  exact am_ineg X hd (by rw [e]; exact k)
theorem am_inc (X : am_X K cc own) {i : Nat} {n x v : Int} {L' : List (Option am_V)} (hl : L[i]? = some (some (vi x))) (hv : x + n = v) (hr : -2147483648 ≤ v ∧ v < 2147483648) (hL : am_st1 L i (vi v) = L') (hd : decode cc pc = .ok (.iinc i n, 3)) (k : am_G K (pc + 3) L' st sh σ) : am_G K pc L st sh σ := by
  subst hv
  have e : w32 (x + n) = x + n := w32_eq hr
  exact am_iinc X hl (by rw [e]; exact hL) hd k
theorem am_div (X : am_X K cc own) {a b v : Int} (h0 : 0 ≤ a) (h1 : 0 < b) (hv : a / b = v) (hd : decode cc pc = .ok (.idiv, 1)) (k : am_G K (pc + 1) L (vi v :: st) sh σ) : am_G K pc L (vi b :: vi a :: st) sh σ := by
  subst hv
  refine am_use (fun _ _ hst _ => ?_)
  have ha := okv_iR (am_st_h (am_st_1 hst))
  have e : w32 (a.tdiv b) = a / b := by rw [w32_eq (R32_tdiv ha h1), am_tdiv h0]
  exact am_idiv X (by omega) hd (by rw [e]; exact k)
theorem am_rem (X : am_X K cc own) {a b v : Int} (h0 : 0 ≤ a) (h1 : 0 < b) (hv : a % b = v) (hd : decode cc pc = .ok (.irem, 1)) (k : am_G K (pc + 1) L (vi v :: st) sh σ) : am_G K pc L (vi b :: vi a :: st) sh σ := by
  subst hv
  refine am_use (fun _ _ hst _ => ?_)
  have hb := okv_iR (am_st_h hst)
  have e : w32 (a.tmod b) = a % b := by
    rw [am_tmod h0]
    apply w32_eq
    have q1 := Int.emod_nonneg a (by omega : b ≠ 0)
    have q2 := Int.emod_lt_of_pos a h1
    unfold R32 at *
    omega
  exact am_irem X (by omega) hd (by rw [e]; exact k)
theorem am_get (X : am_X K cc own) {i ci k0 n : Nat} {v : Int} {rs : List (Option Nat)} (c0 : Nat) (hf : am_lf own i ci k0) (ht : am_isref (am_ty ci k0) = false) (hs : sh[c0]? = some (10 + ci, n, rs)) (hn : k0 < n) (hv : σ c0 k0 = v) (hd : decode cc pc = .ok (.getfield i, 3)) (k : am_G K (pc + 3) L (vi v :: st) sh σ) : am_G K pc L (vr c0 :: st) sh σ := by
  subst hv
  exact am_geti X c0 hf ht hs hn hd k
theorem am_ald (X : am_X K cc own) {n : Nat} {i v : Int} {rs : List (Option Nat)} (c0 j : Nat) (hs : sh[c0]? = some (0, n, rs)) (hj : i = (j : Int)) (h1 : j < n) (hv : σ c0 j = v) (hd : decode cc pc = .ok (.iaload, 1)) (k : am_G K (pc + 1) L (vi v :: st) sh σ) : am_G K pc L (vi i :: vr c0 :: st) sh σ := by
  subst hv; subst hj
  exact am_iald X c0 hs (by omega) (by omega) hd k
theorem am_zalj (X : am_X K cc own) {n : Nat} {i v : Int} {rs : List (Option Nat)} (c0 j : Nat) (hs : sh[c0]? = some (2, n, rs)) (hj : i = (j : Int)) (h1 : j < n) (hv : σ c0 j = v) (hd : decode cc pc = .ok (.baload, 1)) (k : am_G K (pc + 1) L (vi v :: st) sh σ) : am_G K pc L (vi i :: vr c0 :: st) sh σ := by
  subst hv; subst hj
  exact am_zald X c0 hs (by omega) (by omega) hd k
theorem am_lalj (X : am_X K cc own) {n : Nat} {i v : Int} {rs : List (Option Nat)} (c0 j : Nat) (hs : sh[c0]? = some (1, n, rs)) (hj : i = (j : Int)) (h1 : j < n) (hv : σ c0 j = v) (hd : decode cc pc = .ok (.laload, 1)) (k : am_G K (pc + 1) L (vl v :: st) sh σ) : am_G K pc L (vi i :: vr c0 :: st) sh σ := by
  subst hv; subst hj
  exact am_lald X c0 hs (by omega) (by omega) hd k
theorem am_ast (X : am_X K cc own) {n : Nat} {i x : Int} {rs : List (Option Nat)} (c0 j : Nat) (hs : sh[c0]? = some (0, n, rs)) (hj : i = (j : Int)) (h1 : j < n) (hd : decode cc pc = .ok (.iastore, 1)) (k : am_G K (pc + 1) L st sh (am_up σ c0 j x)) : am_G K pc L (vi x :: vi i :: vr c0 :: st) sh σ := by
  subst hj
  exact am_iast X c0 hs (by omega) (by omega) hd k
theorem am_zasj (X : am_X K cc own) {n : Nat} {i x : Int} {rs : List (Option Nat)} (c0 j : Nat) (hs : sh[c0]? = some (2, n, rs)) (hj : i = (j : Int)) (h1 : j < n) (hx : x = 0 ∨ x = 1) (hd : decode cc pc = .ok (.bastore, 1)) (k : am_G K (pc + 1) L st sh (am_up σ c0 j x)) : am_G K pc L (vi x :: vi i :: vr c0 :: st) sh σ := by
  subst hj
  exact am_zast X c0 hs (by omega) (by omega) hx hd k
theorem am_lasj (X : am_X K cc own) {n : Nat} {i x : Int} {rs : List (Option Nat)} (c0 j : Nat) (hs : sh[c0]? = some (1, n, rs)) (hj : i = (j : Int)) (h1 : j < n) (hd : decode cc pc = .ok (.lastore, 1)) (k : am_G K (pc + 1) L st sh (am_up σ c0 j x)) : am_G K pc L (vl x :: vi i :: vr c0 :: st) sh σ := by
  subst hj
  exact am_last X c0 hs (by omega) (by omega) hd k
theorem am_laddv (X : am_X K cc own) {a b v : Int} (hv : a + b = v) (hr : -9223372036854775808 ≤ v ∧ v < 9223372036854775808) (hd : decode cc pc = .ok (.ladd, 1)) (k : am_G K (pc + 1) L (vl v :: st) sh σ) : am_G K pc L (vl b :: vl a :: st) sh σ := by
  subst hv
  have e : w64 (a + b) = a + b := w64_eq hr
  exact am_ladd X hd (by rw [e]; exact k)
theorem am_lmulv (X : am_X K cc own) {a b v : Int} (hv : a * b = v) (hr : -9223372036854775808 ≤ v ∧ v < 9223372036854775808) (hd : decode cc pc = .ok (.lmul, 1)) (k : am_G K (pc + 1) L (vl v :: st) sh σ) : am_G K pc L (vl b :: vl a :: st) sh σ := by
  subst hv
  have e : w64 (a * b) = a * b := w64_eq hr
  exact am_lmul X hd (by rw [e]; exact k)
theorem am_l2iv (X : am_X K cc own) {a : Int} (hr : -2147483648 ≤ a ∧ a < 2147483648) (hd : decode cc pc = .ok (.l2i, 1)) (k : am_G K (pc + 1) L (vi a :: st) sh σ) : am_G K pc L (vl a :: st) sh σ := by
  have e : w32 a = a := w32_eq hr
  exact am_l2i X hd (by rw [e]; exact k)
theorem am_lc (X : am_X K cc own) {n : Fin 2} {v : Int} (hv : Int.ofNat n.val = v) (hd : decode cc pc = .ok (.lconst n, 1)) (k : am_G K (pc + 1) L (vl v :: st) sh σ) : am_G K pc L st sh σ := by
  subst hv
  exact am_lconst X hd k
theorem am_topi {x : Int} (k : ∀ y : Int, y = x → am_G K pc L (vi y :: st) sh σ) : am_G K pc L (vi x :: st) sh σ := k x rfl
theorem am_sg (σ' : am_H) (h : σ = σ') (k : am_G K pc L st sh σ') : am_G K pc L st sh σ := h ▸ k
end AMU
/-- locals that nobody reads any more may be forgotten -/
def am_mask (bs : List Bool) (L : List (Option am_V)) : List (Option am_V) := List.zipWith (fun b o => if b then o else none) bs L
theorem am_fg {K : am_K} {pc : Nat} {L L' : List (Option am_V)} {st : List am_V} {sh : List am_S} {σ : am_H} (bs : List Bool) (hl : bs.length = L.length) (hL : am_mask bs L = L') (k : am_G K pc L' st sh σ) : am_G K pc L st sh σ := by
  subst hL
  obtain ⟨p, l, e, R, s, m, args, below, meth, c, Q, D, cA, A, n0, s0, adS⟩ := K
  intro ad ls H locs h
  have key : ∀ (i : Nat) (v : am_V), (am_mask bs L)[i]? = some (some v) → L[i]? = some (some v) := by
    intro i v hi
    unfold am_mask at hi
    rw [List.getElem?_zipWith] at hi
    cases h1 : bs[i]? with
    | none => rw [h1] at hi; simp at hi
    | some b =>
      cases h2 : L[i]? with
      | none => rw [h1, h2] at hi; simp at hi
      | some o =>
        rw [h1, h2] at hi
        simp at hi
        obtain ⟨-, rfl⟩ := hi
        rfl
  have hlen : (am_mask bs L).length = L.length := by simp [am_mask, hl]
  exact k ad ls H locs ⟨h.1, ⟨⟨by rw [hlen]; exact h.2.1.1.1, h.2.1.1.2.1, fun i v hi => h.2.1.1.2.2 i v (key i v hi)⟩, by rw [hlen]; exact h.2.1.2⟩, h.2.2.1, fun i v hi => h.2.2.2.1 i v (key i v hi), h.2.2.2.2⟩
