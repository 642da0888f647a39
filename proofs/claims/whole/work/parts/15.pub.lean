/-! what the public methods of the class answer -/
theorem sh_sv {i : Int} (h : 0 ≤ i ∧ i ≤ 5) : ([some 51, some 53, some 55, some 57, some 59, some 61] : List (Option Nat))[i.toNat]? = some (some (51 + 2 * i.toNat)) := by
  obtain ⟨d, rfl⟩ : ∃ d : Nat, i = d := ⟨i.toNat, by omega⟩
  rcases (show d = 0 ∨ d = 1 ∨ d = 2 ∨ d = 3 ∨ d = 4 ∨ d = 5 by omega) with rfl | rfl | rfl | rfl | rfl | rfl <;> rfl
def c_owed (σ : am_H) (p q : Int) : Int := am_sum (fun n : Nat => if σ 17 n = p ∧ σ 18 n = q then σ 19 n else 0) (σ 16 5).toNat
def c_by (σ : am_H) (p : Int) : Int := am_sum (fun n : Nat => if σ 17 n = p then σ 19 n else 0) (σ 16 5).toNat
def c_to (σ : am_H) (p : Int) : Int := am_sum (fun n : Nat => if σ 18 n = p then σ 19 n else 0) (σ 16 5).toNat
abbrev c_pair (σ : am_H) (a : Int) : Prop := 0 ≤ a ∧ (0 ≤ a / 10 ∧ a / 10 < σ 1 2) ∧ (0 ≤ a % 10 ∧ a % 10 < σ 1 2) ∧ a / 10 ≠ a % 10
abbrev c_num (σ : am_H) (a b : Int) : Prop := (b = 0 ∧ 0 ≤ a ∧ a ≤ 11) ∨ (b = 1 ∧ 0 ≤ a ∧ a < σ 1 2) ∨ (b = 2 ∧ a = 0) ∨ (b = 3 ∧ a = 0)
abbrev c_alw (b v : Int) : Prop := (b = 2 ∧ 0 ≤ v ∧ v ≤ 2) ∨ (b = 3 ∧ 0 ≤ v ∧ v ≤ 12) ∨ (b ≠ 2 ∧ b ≠ 3 ∧ 1 ≤ v ∧ v ≤ 9)
def c_ofDebt (σ : am_H) (k : Nat) (b : Int) : Int := if b = 0 then σ 17 k else if b = 1 then σ 18 k else if b = 2 then σ 19 k else if b = 3 then σ 20 k else σ 21 k
def c_ofPers (σ : am_H) (k : Nat) (b : Int) : Int := if b = 10 then σ 3 k else if b = 11 then c_by σ k else if b = 12 then c_to σ k else σ 28 k
def c_ofAsk (σ : am_H) (k : Nat) (b : Int) : Int := if b = 40 then σ 23 k else if b = 41 then σ 24 k else (if σ 25 k ≠ 0 then 1 else 0)
def c_of (σ : am_H) (a b : Int) : Int :=
  if 0 ≤ b ∧ b ≤ 4 then (if 0 ≤ a ∧ a < σ 16 5 then c_ofDebt σ a.toNat b else -2000000000)
  else if 10 ≤ b ∧ b ≤ 13 then (if 0 ≤ a ∧ a < σ 1 2 then c_ofPers σ a.toNat b else -2000000000)
  else if b = 30 then (if c_pair σ a then c_owed σ (a / 10) (a % 10) else -2000000000)
  else if 40 ≤ b ∧ b ≤ 42 then (if 0 ≤ a ∧ a < σ 22 6 then c_ofAsk σ a.toNat b else -2000000000)
  else if b = 20 then (if 0 ≤ a ∧ a ≤ 11 then σ 2 a.toNat else -2000000000)
  else if b = 50 ∨ b = 51 then (if a = 0 then (if b = 50 then σ 1 3 else σ 1 4) else -2000000000)
  else -2000000000
/-- what holds of the class's cells -/
def DayV (σ : am_H) : Prop := ∀ n : Nat, (n : Int) < σ 16 5 → 0 ≤ σ 19 n ∧ σ 19 n ≤ 9
def ShV (σ : am_H) : Prop := ∀ d : Nat, d < 6 → (-1 ≤ σ (51 + 2 * d) 1 ∧ σ (51 + 2 * d) 1 < σ 46 2) ∧ (-1 ≤ σ (51 + 2 * d) 2 ∧ σ (51 + 2 * d) 2 ≤ 4) ∧ (0 ≤ σ (51 + 2 * d) 3 ∧ σ (51 + 2 * d) 3 ≤ 60) ∧ (σ (51 + 2 * d) 2 = -1 → σ (51 + 2 * d) 3 = 0) ∧ (0 ≤ σ (51 + 2 * d) 2 → σ (51 + 2 * d) 1 = -1) ∧ ∀ j : Nat, (j : Int) < σ (51 + 2 * d) 3 → σ (51 + 2 * d) 2 = 0 ∨ σ (51 + 2 * d) 2 = 1 → -32768 ≤ σ (52 + 2 * d) j ∧ σ (52 + 2 * d) j ≤ 32767
def c_refusal (σ : am_H) (a i : Int) : Int := if ¬ (0 ≤ a ∧ a ≤ 5) then -1 else if σ (51 + 2 * a.toNat) 1 < 0 ∧ σ (51 + 2 * a.toNat) 2 < 0 then -11 else if ¬ 0 ≤ σ (51 + 2 * a.toNat) 2 then -12 else if 0 ≤ i ∧ i < σ (51 + 2 * a.toNat) 3 then 0 else -13
/-- a debt out of a row: place j of shelf d -/
def c_comes (σ : am_H) (d : Nat) (j : Int) : Prop := 0 ≤ j ∧ j + 3 < σ (51 + 2 * d) 3 ∧ σ 16 5 < 20 ∧ (0 ≤ σ (52 + 2 * d) j.toNat ∧ σ (52 + 2 * d) j.toNat < σ 1 2) ∧ (0 ≤ σ (52 + 2 * d) (j + 1).toNat ∧ σ (52 + 2 * d) (j + 1).toNat < σ 1 2) ∧ σ (52 + 2 * d) j.toNat ≠ σ (52 + 2 * d) (j + 1).toNat ∧ (1 ≤ σ (52 + 2 * d) (j + 2).toNat ∧ σ (52 + 2 * d) (j + 2).toNat ≤ 9) ∧ 0 ≤ σ (52 + 2 * d) (j + 3).toNat ∧ σ (52 + 2 * d) (j + 3).toNat ≤ 12
def c_come (σ : am_H) (d : Nat) (j : Int) : am_H := led_add σ (σ (52 + 2 * d) j.toNat) (σ (52 + 2 * d) (j + 1).toNat) (σ (52 + 2 * d) (j + 2).toNat) (σ (52 + 2 * d) (j + 3).toNat)
theorem led_add_at {σ : am_H} {p q d k : Int} {c j : Nat} (h : c ≠ 17 ∧ c ≠ 18 ∧ c ≠ 19 ∧ c ≠ 20 ∧ c ≠ 21 ∧ c ≠ 16) : led_add σ p q d k c j = σ c j := by
  unfold led_add
  rw [am_up_k (by omega), am_up_k (by omega), am_up_k (by omega), am_up_k (by omega), am_up_k (by omega), am_up_k (by omega)]
theorem led_add_n {σ : am_H} {p q d k : Int} : led_add σ p q d k 16 5 = σ 16 5 + 1 := by
  unfold led_add
  rw [am_up_eq]
