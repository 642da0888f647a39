/-! how few can wipe all -/
theorem wb_x : ∀ (s : Fin 256) (p : Fin 8), am_bit (s.val : Int) p.val ≠ 0 → am_xor (s.val : Int) (am_shl 1 (p.val : Int)) = ((s.val - 2 ^ p.val : Nat) : Int) ∧ am_and (s.val : Int) (am_xor (am_shl 1 (p.val : Int)) (-1)) = ((s.val - 2 ^ p.val : Nat) : Int) ∧ s.val - 2 ^ p.val < s.val ∧ am_bit (s.val : Int) p.val = 1 ∧ am_bit ((s.val - 2 ^ p.val : Nat) : Int) p.val = 0 := by decide +kernel
theorem wb_q : ∀ (s : Fin 256) (p q : Fin 8), am_bit (s.val : Int) p.val ≠ 0 → q ≠ p → am_bit ((s.val - 2 ^ p.val : Nat) : Int) q.val = am_bit (s.val : Int) q.val := by decide +kernel
theorem wb_e : ∀ (P : Fin 9) (s : Fin 256), 0 < s.val → s.val < 2 ^ P.val → ∃ q : Fin 8, q.val < P.val ∧ am_bit (s.val : Int) q.val ≠ 0 := by decide +kernel
theorem wb_p : ∀ P : Fin 9, am_shl 1 (P.val : Int) = ((2 ^ P.val : Nat) : Int) ∧ 1 ≤ 2 ^ P.val ∧ 2 ^ P.val ≤ 256 := by decide +kernel
theorem wb_p8 : ∀ P : Fin 8, am_shl 1 (P.val : Int) = ((2 ^ P.val : Nat) : Int) := by decide +kernel
theorem wb_01 (s : Int) (p : Nat) : am_bit s p = 0 ∨ am_bit s p = 1 := by
  unfold am_bit am_and
  rw [show Int32.ofInt 1 = 1 from rfl]
  generalize Int32.ofInt (am_shr s p) = x
  have h : ∀ y : Int32, (y &&& 1).toInt = 0 ∨ (y &&& 1).toInt = 1 := by
    intro y
    have hn : (y &&& 1).toBitVec.toNat = y.toBitVec.toNat % 2 := by
      rw [Int32.toBitVec_and]
      show (y.toBitVec &&& 1#32).toNat = _
      rw [BitVec.toNat_and]
      exact Nat.and_one_is_mod _
    have hy : y &&& 1 = 0 ∨ y &&& 1 = 1 := by
      rcases Nat.mod_two_eq_zero_or_one y.toBitVec.toNat with q | q
      · exact Or.inl (Int32.toBitVec_inj.mp (BitVec.eq_of_toNat_eq (by rw [hn, q]; rfl)))
      · exact Or.inr (Int32.toBitVec_inj.mp (BitVec.eq_of_toNat_eq (by rw [hn, q]; rfl)))
    rcases hy with hy | hy <;> rw [hy]
    · exact Or.inl rfl
    · exact Or.inr rfl
  exact h x
def wp_sm (net : Nat → Int) (s P : Nat) : Int := am_sum (fun p => if am_bit (s : Int) p ≠ 0 then net p else 0) P
def wp_mx (T : Nat → Int) (s P : Nat) : Int := am_it (fun p b => if am_bit (s : Int) p ≠ 0 then (if b < T (s - 2 ^ p) then T (s - 2 ^ p) else b) else b) P 0
/-- what the table of sets is, up to m -/
def wp_ch (T net : Nat → Int) (P m : Nat) : Prop := (0 < m → T 0 = 0) ∧ ∀ s, 0 < s → s < m → T s = wp_mx T s P + (if wp_sm net s P = 0 then 1 else 0)
theorem wp_mx_congr {T T' : Nat → Int} {s : Nat} (hs : s < 256) : ∀ P : Nat, P ≤ 8 → (∀ r, r < s → T r = T' r) → wp_mx T s P = wp_mx T' s P
  | 0, _, _ => rfl
  | P + 1, hP, h => by
    have ih := wp_mx_congr hs P (by omega) h
    show (if am_bit (s : Int) P ≠ 0 then (if wp_mx T s P < T (s - 2 ^ P) then T (s - 2 ^ P) else wp_mx T s P) else wp_mx T s P) = (if am_bit (s : Int) P ≠ 0 then (if wp_mx T' s P < T' (s - 2 ^ P) then T' (s - 2 ^ P) else wp_mx T' s P) else wp_mx T' s P)
    by_cases hb : am_bit (s : Int) P ≠ 0
    · rw [if_pos hb, if_pos hb, ih, h _ (wb_x ⟨s, hs⟩ ⟨P, by omega⟩ hb).2.2.1]
    · rw [if_neg hb, if_neg hb, ih]
theorem wp_mx_bd {T : Nat → Int} {s : Nat} {m : Int} (hm : 0 ≤ m) (hs : s < 256) : ∀ P : Nat, P ≤ 8 → (∀ r, r < s → 0 ≤ T r ∧ T r ≤ m) → 0 ≤ wp_mx T s P ∧ wp_mx T s P ≤ m
  | 0, _, _ => ⟨Int.le_refl _, hm⟩
  | P + 1, hP, h => by
    have ih := wp_mx_bd hm hs P (by omega) h
    show 0 ≤ (if am_bit (s : Int) P ≠ 0 then (if wp_mx T s P < T (s - 2 ^ P) then T (s - 2 ^ P) else wp_mx T s P) else wp_mx T s P) ∧ (if am_bit (s : Int) P ≠ 0 then (if wp_mx T s P < T (s - 2 ^ P) then T (s - 2 ^ P) else wp_mx T s P) else wp_mx T s P) ≤ m
    by_cases hb : am_bit (s : Int) P ≠ 0
    · have := h _ (wb_x ⟨s, hs⟩ ⟨P, by omega⟩ hb).2.2.1
      simp only [Fin.val_mk] at this
      rw [if_pos hb]
      split <;> omega
    · rw [if_neg hb]; exact ih
theorem wp_ch_un {T T' net net' : Nat → Int} {P m : Nat} (hP : P ≤ 8) (hm : m ≤ 256) (hn : ∀ p, p < P → net p = net' p) (h : wp_ch T net P m) (h' : wp_ch T' net' P m) : ∀ s, s < m → T s = T' s := by
  intro s
  induction s using Nat.strongRecOn with
  | ind s ih =>
    intro hs
    by_cases h0 : s = 0
    · subst h0
      rw [h.1 hs, h'.1 hs]
    · have hsm : wp_sm net s P = wp_sm net' s P := am_sum_congr _ (fun p hp => by rw [hn p hp])
      rw [h.2 s (by omega) hs, h'.2 s (by omega) hs, hsm, wp_mx_congr (T' := T') (by omega) P hP (fun r hr => ih r hr (by omega))]
theorem wp_sm_rest {net : Nat → Int} {s p : Nat} (hs : s < 256) (hp : p < 8) (hb : am_bit (s : Int) p ≠ 0) : ∀ P : Nat, P ≤ 8 → wp_sm net (s - 2 ^ p) P + (if p < P then net p else 0) = wp_sm net s P
  | 0, _ => by rw [if_neg (by omega)]; rfl
  | P + 1, hP => by
    have ih := wp_sm_rest (net := net) hs hp hb P (by omega)
    show wp_sm net (s - 2 ^ p) P + (if am_bit ((s - 2 ^ p : Nat) : Int) P ≠ 0 then net P else 0) + (if p < P + 1 then net p else 0) = wp_sm net s P + (if am_bit (s : Int) P ≠ 0 then net P else 0)
    by_cases e : P = p
    · subst e
      have h := (wb_x ⟨s, hs⟩ ⟨P, hp⟩ hb).2.2.2.2
      rw [if_neg (Nat.lt_irrefl P)] at ih
      rw [if_neg (fun q => q h), if_pos (Nat.lt_succ_self P), if_pos hb, ← ih]
    · have h := wb_q ⟨s, hs⟩ ⟨p, hp⟩ ⟨P, by omega⟩ hb (fun q => e (congrArg Fin.val q))
      have h : am_bit ((s - 2 ^ p : Nat) : Int) P = am_bit (s : Int) P := h
      rw [h, ← ih]
      generalize (if am_bit (s : Int) P ≠ 0 then net P else 0) = z
      by_cases e2 : p < P
      · rw [if_pos e2, if_pos (show p < P + 1 by omega)]; omega
      · rw [if_neg e2, if_neg (show ¬ p < P + 1 by omega)]; omega
theorem wp_sm_bd {net : Nat → Int} {s P : Nat} (hP : P ≤ 8) (hn : ∀ p, p < P → -180 ≤ net p ∧ net p ≤ 180) : -1440 ≤ wp_sm net s P ∧ wp_sm net s P ≤ 1440 := by
  have h := am_sum_rg (f := fun p => if am_bit (s : Int) p ≠ 0 then net p else 0) (m := 180) P (fun p hp => by have := hn p hp; split <;> omega)
  have h : -(180 * (P : Int)) ≤ wp_sm net s P ∧ wp_sm net s P ≤ 180 * (P : Int) := h
  omega
def c_con (σ : am_H) (k j : Nat) : Int := if σ 20 j = 12 then (if σ 18 j = (k : Int) then σ 19 j else 0) - (if σ 17 j = (k : Int) then σ 19 j else 0) else 0
def c_net (σ : am_H) (k : Nat) : Int := am_sum (c_con σ k) (σ 16 5).toNat
def c_tn (σ : am_H) (n : Nat) : am_H := fun c k => if c = 43 ∧ k < 8 then am_sum (c_con σ k) n else σ c k
def c_tz (σ : am_H) (n : Nat) : am_H := fun c k => if c = 43 ∧ k < n then 0 else σ c k
theorem c_tz_0 (σ : am_H) : c_tz σ 0 = σ := by
  funext c k; unfold c_tz; rw [if_neg (by omega)]
theorem c_tz_s {σ : am_H} {n : Nat} : am_up (c_tz σ n) 43 n 0 = c_tz σ (n + 1) := by
  funext c k
  unfold am_up c_tz
  by_cases h1 : c = 43 ∧ k = n
  · rw [if_pos h1, if_pos (by omega)]
  · rw [if_neg h1]
    by_cases h2 : c = 43 ∧ k < n
    · rw [if_pos h2, if_pos (by omega)]
    · rw [if_neg h2, if_neg (by omega)]
theorem c_tz_tn (σ : am_H) : c_tz σ 8 = c_tn σ 0 := rfl
theorem c_tn_at {σ : am_H} {n c k : Nat} (h : c ≠ 43) : c_tn σ n c k = σ c k := by
  unfold c_tn; rw [if_neg (by omega)]
theorem c_tn_43 {σ : am_H} {n k : Nat} (h : k < 8) : c_tn σ n 43 k = am_sum (c_con σ k) n := by
  unfold c_tn; rw [if_pos ⟨rfl, h⟩]
theorem c_tn_s0 {σ : am_H} {n : Nat} (h : σ 20 n ≠ 12) : c_tn σ n = c_tn σ (n + 1) := by
  funext c k
  unfold c_tn
  split
  · show _ = am_sum (c_con σ k) n + c_con σ k n
    have : c_con σ k n = 0 := by unfold c_con; rw [if_neg h]
    omega
  · rfl
theorem c_tn_s1 {σ : am_H} {n p q : Nat} (h : σ 20 n = 12) (hp : σ 17 n = (p : Int)) (hq : σ 18 n = (q : Int)) (hpq : p < 8 ∧ q < 8 ∧ p ≠ q) : am_up (am_up (c_tn σ n) 43 p (am_sum (c_con σ p) n - σ 19 n)) 43 q (am_sum (c_con σ q) n + σ 19 n) = c_tn σ (n + 1) := by
  funext c k
  unfold am_up c_tn
  have hk : ∀ k : Nat, am_sum (c_con σ k) (n + 1) = am_sum (c_con σ k) n + ((if (q : Int) = (k : Int) then σ 19 n else 0) - (if (p : Int) = (k : Int) then σ 19 n else 0)) := fun k => by
    show am_sum (c_con σ k) n + c_con σ k n = _
    unfold c_con
    rw [if_pos h, hp, hq]
  by_cases h1 : c = 43 ∧ k = q
  · obtain ⟨rfl, rfl⟩ := h1
    rw [if_pos ⟨rfl, rfl⟩, if_pos ⟨rfl, hpq.2.1⟩, hk, if_pos rfl, if_neg (by omega)]; omega
  · rw [if_neg h1]
    by_cases h2 : c = 43 ∧ k = p
    · obtain ⟨rfl, rfl⟩ := h2
      rw [if_pos ⟨rfl, rfl⟩, if_pos ⟨rfl, hpq.1⟩, hk, if_neg (by omega), if_pos rfl]; omega
    · rw [if_neg h2]
      by_cases h3 : c = 43 ∧ k < 8
      · rw [if_pos h3, if_pos h3, hk, if_neg (by omega), if_neg (by omega)]; omega
      · rw [if_neg h3, if_neg h3]
def md_con (σ : am_H) (k j : Nat) : Int := (if σ 68 (5 * j + 3) = 12 ∧ σ 68 (5 * j + 1) = (k : Int) then σ 68 (5 * j + 2) else 0) - (if σ 68 (5 * j + 3) = 12 ∧ σ 68 (5 * j) = (k : Int) then σ 68 (5 * j + 2) else 0)
def md_net (σ : am_H) (k : Nat) : Int := am_sum (md_con σ k) (σ 63 7).toNat
theorem wp_sm_0 (net : Nat → Int) (P : Nat) : wp_sm net 0 P = 0 := by
  unfold wp_sm
  have h0 : ∀ p : Nat, am_bit ((0 : Nat) : Int) p = 0 := fun p => by
    unfold am_bit am_shr am_and
    rw [show Int32.ofInt ((0 : Nat) : Int) = 0 from rfl]
    simp
  induction P with
  | zero => rfl
  | succ P ih =>
    show am_sum _ P + (if am_bit ((0 : Nat) : Int) P ≠ 0 then net P else 0) = 0
    rw [if_neg (fun q => q (h0 P)), ih]; rfl
theorem wp_mx_0 (T : Nat → Int) (P : Nat) : wp_mx T 0 P = 0 := by
  unfold wp_mx
  have h0 : ∀ p : Nat, am_bit ((0 : Nat) : Int) p = 0 := fun p => by
    unfold am_bit am_shr am_and
    rw [show Int32.ofInt ((0 : Nat) : Int) = 0 from rfl]
    simp
  induction P with
  | zero => rfl
  | succ P ih => rw [am_it_succ, if_neg (fun q => q (h0 P)), ih]
theorem md_net_fr {σ τ : am_H} (h : ∀ c k : Nat, c ≠ 77 → c ≠ 78 → τ c k = σ c k) (p : Nat) : md_net τ p = md_net σ p := by
  unfold md_net
  rw [h 63 7 (by decide) (by decide)]
  refine am_sum_congr _ (fun k _ => ?_)
  unfold md_con
  rw [h 68 _ (by decide) (by decide), h 68 _ (by decide) (by decide), h 68 _ (by decide) (by decide), h 68 _ (by decide) (by decide)]
