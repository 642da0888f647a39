/-! bits of a set -/
theorem rg_sh5 : ∀ k : Fin 20, ((Int32.ofInt (k.val : Int) &&& 31).toBitVec.smod 32#32).toNat = k.val := by decide +kernel
theorem rg_shr (x k : Nat) (hx : x < 1048576) (hk : k < 20) : am_shr (x : Int) (k : Int) = ((x >>> k : Nat) : Int) := by
  have hle : x >>> k ≤ x := Nat.shiftRight_le x k
  refine rg_toInt _ _ ?_ (by omega)
  rw [Int32.toBitVec_shiftRight]
  show ((Int32.ofInt (x : Int)).toBitVec.sshiftRight ((Int32.ofInt (k : Int) &&& 31).toBitVec.smod 32#32).toNat).toNat = _
  have h5 := rg_sh5 ⟨k, hk⟩
  have hn := rg_ofNat x (by omega)
  rw [h5, BitVec.sshiftRight_eq_of_msb_false (by rw [BitVec.msb_eq_false_iff_two_mul_lt, hn]; omega), BitVec.toNat_ushiftRight, hn]
theorem rg_bitN (x k : Nat) (hx : x < 1048576) (hk : k < 20) : am_bit (x : Int) k = if x.testBit k = true then 1 else 0 := by
  have hle : x >>> k ≤ x := Nat.shiftRight_le x k
  unfold am_bit
  rw [rg_shr x k hx hk]
  have h1 := rg_and (x >>> k) 1 (by omega) (by decide)
  have h2 : am_and ((x >>> k : Nat) : Int) 1 = ((x >>> k &&& 1 : Nat) : Int) := h1
  rw [h2, Nat.and_one_is_mod, Nat.shiftRight_eq_div_pow, Nat.testBit_eq_decide_div_mod_eq]
  by_cases e : x / 2 ^ k % 2 = 1
  · rw [e, decide_eq_true rfl, if_pos rfl]; rfl
  · rw [show x / 2 ^ k % 2 = 0 by omega]; rfl
theorem cp_least {σ τ : am_H} {x : Int} (h : RDeb σ τ 16 7 68) (hx : c_rg σ x) (h0 : x ≠ 0) : ∀ n : Nat, (n : Int) ≤ σ 16 5 →
    (led_least σ x n = 0 ∧ m_least τ x n = 9 ∧ ∀ k, k < n → am_bit x k = 0) ∨ (led_least σ x n = m_least τ x n ∧ 1 ≤ led_least σ x n ∧ led_least σ x n ≤ 9) := by
  have hd := cp_deb h
  obtain ⟨l, hl, -, hop⟩ := cp_open hx h0 hd.1.2.2
  have hlt : rg_V0 l < 1048576 := by
    obtain ⟨m, e, hm, -⟩ := hx
    omega
  intro n
  induction n with
  | zero => intro _; exact Or.inl ⟨rfl, rfl, fun k hk => absurd hk (Nat.not_lt_zero _)⟩
  | succ n ih =>
    intro hn
    have ih := ih (by omega)
    have hq := hd.2 n (by omega)
    have hb : am_bit x n = if (rg_V0 l).testBit n = true then 1 else 0 := by rw [hl]; exact rg_bitN _ n hlt (by omega)
    have hA : led_least σ x (n + 1) = if am_bit x n ≠ 0 ∧ (led_least σ x n = 0 ∨ σ 19 n < led_least σ x n) then σ 19 n else led_least σ x n := rfl
    have hB : m_least τ x (n + 1) = if am_bit x n = 1 ∧ τ 68 (5 * n + 2) < m_least τ x n then τ 68 (5 * n + 2) else m_least τ x n := rfl
    rw [hA, hB, hq.1.2.2.1]
    by_cases e : (rg_V0 l).testBit n = true
    · rw [if_pos e] at hb
      have ho := hop n ((rg_V0_bit n l).mp e)
      have h9 := hq.2.2.2.2.1
      rw [hb]
      rcases ih with ⟨i1, i2, i3⟩ | ⟨i1, i2, i3⟩
      · rw [i1, i2, if_pos ⟨by decide, Or.inl rfl⟩]
        by_cases e9 : σ 19 n < 9
        · rw [if_pos ⟨rfl, e9⟩]; exact Or.inr ⟨rfl, by omega, by omega⟩
        · rw [if_neg (fun q => e9 q.2)]; exact Or.inr ⟨by omega, by omega, by omega⟩
      · rw [← i1]
        by_cases e9 : σ 19 n < led_least σ x n
        · rw [if_pos ⟨by decide, Or.inr e9⟩, if_pos ⟨rfl, e9⟩]; exact Or.inr ⟨rfl, by omega, by omega⟩
        · rw [if_neg (fun q => by have := q.2; omega), if_neg (fun q => e9 q.2)]; exact Or.inr ⟨rfl, i2, i3⟩
    · rw [if_neg e] at hb
      rw [hb, if_neg (fun q => q.1 rfl), if_neg (fun q => absurd q.1 (by decide))]
      rcases ih with ⟨i1, i2, i3⟩ | i
      · refine Or.inl ⟨i1, i2, fun k hk => ?_⟩
        by_cases ek : k = n
        · rw [ek]; exact hb
        · exact i3 k (by omega)
      · exact Or.inr i
