/-! the contracts out of the relation -/
def Q9_person (σ σ1 : am_H) (a r1 : Int) : Prop := ((¬ (1 ≤ a ∧ a ≤ 9) ∧ r1 = -1 ∧ σ = σ1) ∨ (((1 ≤ a ∧ a ≤ 9) ∧ σ 1 2 = 8) ∧ r1 = -3 ∧ σ = σ1) ∨ (((1 ≤ a ∧ a ≤ 9) ∧ σ 1 2 < 8) ∧ r1 = σ 1 2 ∧ (set_add σ a) = σ1))
def Q10_person (σ1 σ2 : am_H) (a r2 : Int) : Prop := ((¬ (1 ≤ a ∧ a ≤ 9) ∧ r2 = -1 ∧ σ1 = σ2) ∨ (((1 ≤ a ∧ a ≤ 9) ∧ σ1 63 6 = 8) ∧ r2 = -3 ∧ σ1 = σ2) ∨ (((1 ≤ a ∧ a ≤ 9) ∧ σ1 63 6 < 8) ∧ r2 = σ1 63 6 ∧ (md_person σ1 a) = σ2))
theorem k9_person {σ : am_H} (a : Int) (h : RR σ σ) : am_Mi yX9_person cX9_person 2 (some .int) 1 0 0 [vr 0, vi a] SH σ (fun r sh' σ' => SH = sh' ∧ Q9_person σ σ' a r) :=
  m_X9_person (a := a) (σ := σ) (hp := kh9_0 h)
theorem k10_person {σ σ1 : am_H} (a : Int) (h : RR σ σ1) : am_Mi yX10_person cX10_person 2 (some .int) 1 0 0 [vr 63, vi a] SH σ1 (fun r sh' σ' => SH = sh' ∧ Q10_person σ1 σ' a r) :=
  m_X10_person (a := a) (σ := σ1) (hp := kh10_0 h)
def Q9_debt (σ σ1 : am_H) (a b r1 : Int) : Prop := ((¬ (c_pair σ a ∧ 0 ≤ b ∧ (1 ≤ b / 100 ∧ b / 100 ≤ 9) ∧ 0 ≤ b % 100 ∧ b % 100 ≤ 12) ∧ r1 = -1 ∧ σ = σ1) ∨ (((c_pair σ a ∧ 0 ≤ b ∧ (1 ≤ b / 100 ∧ b / 100 ≤ 9) ∧ 0 ≤ b % 100 ∧ b % 100 ≤ 12) ∧ σ 16 5 = 20) ∧ r1 = -3 ∧ σ = σ1) ∨ (((c_pair σ a ∧ 0 ≤ b ∧ (1 ≤ b / 100 ∧ b / 100 ≤ 9) ∧ 0 ≤ b % 100 ∧ b % 100 ≤ 12) ∧ σ 16 5 < 20) ∧ r1 = σ 16 5 ∧ (led_add σ (a / 10) (a % 10) (b / 100) (b % 100)) = σ1))
def Q10_debt (σ1 σ2 : am_H) (a b r2 : Int) : Prop := ((¬ ((0 ≤ a ∧ (0 ≤ a / 10 ∧ a / 10 < σ1 63 6) ∧ (0 ≤ a % 10 ∧ a % 10 < σ1 63 6) ∧ a / 10 ≠ a % 10) ∧ 0 ≤ b ∧ (1 ≤ b / 100 ∧ b / 100 ≤ 9) ∧ 0 ≤ b % 100 ∧ b % 100 ≤ 12) ∧ r2 = -1 ∧ σ1 = σ2) ∨ ((((0 ≤ a ∧ (0 ≤ a / 10 ∧ a / 10 < σ1 63 6) ∧ (0 ≤ a % 10 ∧ a % 10 < σ1 63 6) ∧ a / 10 ≠ a % 10) ∧ 0 ≤ b ∧ (1 ≤ b / 100 ∧ b / 100 ≤ 9) ∧ 0 ≤ b % 100 ∧ b % 100 ≤ 12) ∧ σ1 63 7 = 20) ∧ r2 = -3 ∧ σ1 = σ2) ∨ ((((0 ≤ a ∧ (0 ≤ a / 10 ∧ a / 10 < σ1 63 6) ∧ (0 ≤ a % 10 ∧ a % 10 < σ1 63 6) ∧ a / 10 ≠ a % 10) ∧ 0 ≤ b ∧ (1 ≤ b / 100 ∧ b / 100 ≤ 9) ∧ 0 ≤ b % 100 ∧ b % 100 ≤ 12) ∧ σ1 63 7 < 20) ∧ r2 = σ1 63 7 ∧ (md_adds σ1 (σ1 63 7).toNat (a / 10) (a % 10) (b / 100) (b % 100)) = σ2))
theorem k9_debt {σ : am_H} (a b : Int) (h : RR σ σ) : am_Mi yX9_debt cX9_debt 3 (some .int) 4 0 0 [vr 0, vi a, vi b] SH σ (fun r sh' σ' => SH = sh' ∧ Q9_debt σ σ' a b r) :=
  m_X9_debt (a := a) (b := b) (σ := σ) (hp := kh9_0 h) (hc := kh9_1 h)
theorem k10_debt {σ σ1 : am_H} (a b : Int) (h : RR σ σ1) : am_Mi yX10_debt cX10_debt 3 (some .int) 2 0 0 [vr 63, vi a, vi b] SH σ1 (fun r sh' σ' => SH = sh' ∧ Q10_debt σ1 σ' a b r) :=
  m_X10_debt (a := a) (b := b) (σ := σ1) (hp := kh10_0 h) (hc := kh10_1 h)
def Q9_debts (σ σ1 : am_H) (a i n r1 : Int) : Prop := ((¬ ((0 ≤ a ∧ a ≤ 5) ∧ 1 ≤ n ∧ n ≤ 15) ∧ r1 = -1 ∧ σ = σ1) ∨ ((((0 ≤ a ∧ a ≤ 5) ∧ 1 ≤ n ∧ n ≤ 15) ∧ (σ (51 + 2 * a.toNat) 1 < 0 ∧ σ (51 + 2 * a.toNat) 2 < 0)) ∧ r1 = 0 ∧ σ = σ1) ∨ ((((0 ≤ a ∧ a ≤ 5) ∧ 1 ≤ n ∧ n ≤ 15) ∧ ¬ (σ (51 + 2 * a.toNat) 1 < 0 ∧ σ (51 + 2 * a.toNat) 2 < 0) ∧ σ (51 + 2 * a.toNat) 2 ≠ 0) ∧ r1 = -12 ∧ σ = σ1) ∨ ((((0 ≤ a ∧ a ≤ 5) ∧ 1 ≤ n ∧ n ≤ 15) ∧ ¬ (σ (51 + 2 * a.toNat) 1 < 0 ∧ σ (51 + 2 * a.toNat) 2 < 0)) ∧ σ (51 + 2 * a.toNat) 2 = 0 ∧ (∃ m : Nat, r1 = (m : Int) ∧ (m : Int) ≤ n ∧ c_dbt a.toNat i m σ = σ1 ∧ (∀ k : Nat, k < m → c_comes (c_dbt a.toNat i k σ) a.toNat (i + 4 * (k : Int))) ∧ ((m : Int) = n ∨ ¬ c_comes (c_dbt a.toNat i m σ) a.toNat (i + 4 * (m : Int))))))
def Q10_debts (σ1 σ2 : am_H) (a i n r2 : Int) : Prop := ((¬ ((0 ≤ a ∧ a ≤ 5) ∧ 1 ≤ n ∧ n ≤ 15) ∧ r2 = -1 ∧ σ1 = σ2) ∨ ((((0 ≤ a ∧ a ≤ 5) ∧ 1 ≤ n ∧ n ≤ 15) ∧ 0 ≤ σ1 86 a.toNat ∧ σ1 86 a.toNat ≠ 50) ∧ r2 = -12 ∧ σ1 = σ2) ∨ ((((0 ≤ a ∧ a ≤ 5) ∧ 1 ≤ n ∧ n ≤ 15) ∧ (σ1 86 a.toNat < 0 ∨ σ1 86 a.toNat = 50)) ∧ True ∧ ∃ m : Nat, r2 = (m : Int) ∧ (m : Int) ≤ n ∧ md_dbt (60 * a.toNat + i.toNat) m σ1 = σ2 ∧ (∀ k : Nat, k < m → md_comes (md_dbt (60 * a.toNat + i.toNat) k σ1) a.toNat (i + 4 * (k : Int))) ∧ ((m : Int) = n ∨ ¬ md_comes (md_dbt (60 * a.toNat + i.toNat) m σ1) a.toNat (i + 4 * (m : Int)))))
theorem k9_debts {σ : am_H} (a i n : Int) (hi : -2147483648 ≤ i ∧ i < 2147483648) (h : RR σ σ) : am_Mi yX9_debts cX9_debts 7 (some .int) 4 0 0 [vr 0, vi a, vi i, vi n] SH σ (fun r sh' σ' => SH = sh' ∧ Q9_debts σ σ' a i n r) :=
  m_X9_debts (a := a) (i := i) (n := n) (hi := hi) (σ := σ) (hp := kh9_0 h) (hc := kh9_1 h) (hs := kh9_2 h)
theorem k10_debts {σ σ1 : am_H} (a i n : Int) (hi : -2147483648 ≤ i ∧ i < 2147483648) (h : RR σ σ1) : am_Mi yX10_debts cX10_debts 7 (some .int) 2 0 0 [vr 63, vi a, vi i, vi n] SH σ1 (fun r sh' σ' => SH = sh' ∧ Q10_debts σ1 σ' a i n r) :=
  m_X10_debts (a := a) (i := i) (n := n) (hi := hi) (σ := σ1) (hp := kh10_0 h) (hc := kh10_1 h) (hs := kh10_2 h)
def Q9_mend (σ σ1 : am_H) (a b c r1 : Int) : Prop := ((¬ (c_num σ a b ∧ c_alw b c) ∧ r1 = -1 ∧ σ = σ1) ∨ (((c_num σ a b ∧ c_alw b c) ∧ set_told σ a.toNat b = c) ∧ r1 = set_told σ a.toNat b ∧ σ = σ1) ∨ (((c_num σ a b ∧ c_alw b c) ∧ set_told σ a.toNat b ≠ c) ∧ r1 = set_told σ a.toNat b ∧ (set_tell (chg_note σ a b (set_told σ a.toNat b) c) a.toNat b c) = σ1))
def Q10_mend (σ1 σ2 : am_H) (a b c r2 : Int) : Prop := (((b = 0 ∧ (0 ≤ a ∧ a ≤ 11) ∧ 1 ≤ c ∧ c ≤ 9) ∧ r2 = σ1 64 a.toNat ∧ (md_becomes σ1 a.toNat c) = σ2) ∨ ((b = 1 ∧ (0 ≤ a ∧ a < σ1 63 6) ∧ 1 ≤ c ∧ c ≤ 9) ∧ r2 = σ1 64 (12 + a).toNat ∧ (md_becomes σ1 (12 + a).toNat c) = σ2) ∨ ((b = 2 ∧ a = 0 ∧ 0 ≤ c ∧ c ≤ 2) ∧ r2 = σ1 64 20 ∧ (md_becomes σ1 20 c) = σ2) ∨ ((b = 3 ∧ a = 0 ∧ 0 ≤ c ∧ c ≤ 12) ∧ r2 = σ1 64 21 ∧ (md_becomes σ1 21 c) = σ2) ∨ (¬ ((b = 0 ∧ (0 ≤ a ∧ a ≤ 11) ∧ 1 ≤ c ∧ c ≤ 9) ∨ (b = 1 ∧ (0 ≤ a ∧ a < σ1 63 6) ∧ 1 ≤ c ∧ c ≤ 9) ∨ (b = 2 ∧ a = 0 ∧ 0 ≤ c ∧ c ≤ 2) ∨ (b = 3 ∧ a = 0 ∧ 0 ≤ c ∧ c ≤ 12)) ∧ r2 = -1 ∧ σ1 = σ2))
theorem k9_mend {σ : am_H} (a b c : Int) (h : RR σ σ) : am_Mi yX9_mend cX9_mend 5 (some .int) 3 0 0 [vr 0, vi a, vi b, vi c] SH σ (fun r sh' σ' => SH = sh' ∧ Q9_mend σ σ' a b c r) :=
  m_X9_mend (a := a) (b := b) (c := c) (σ := σ) (hp := kh9_0 h) (hD := kh9_3 h)
theorem k10_mend {σ σ1 : am_H} (a b c : Int) (h : RR σ σ1) : am_Mi yX10_mend cX10_mend 4 (some .int) 2 0 0 [vr 63, vi a, vi b, vi c] SH σ1 (fun r sh' σ' => SH = sh' ∧ Q10_mend σ1 σ' a b c r) :=
  m_X10_mend (a := a) (b := b) (c := c) (σ := σ1) (hp := kh10_0 h) (hD := kh10_3 h)
def Q9_of (σ σ1 : am_H) (a b r1 : Int) : Prop := σ = σ1 ∧ r1 = c_of σ a b
def Q10_of (σ1 σ2 : am_H) (a b r2 : Int) : Prop := σ1 = σ2 ∧ r2 = md_of σ1 a b
theorem k9_of {σ : am_H} (a b : Int) (h : RR σ σ) : am_Mi yX9_of cX9_of 4 (some .int) 4 0 0 [vr 0, vi a, vi b] SH σ (fun r sh' σ' => SH = sh' ∧ Q9_of σ σ' a b r) :=
  m_X9_of (a := a) (b := b) (σ := σ) (hp := kh9_0 h) (hc := kh9_1 h) (hd := kh9_4 h) (ha := kh9_5 h)
theorem k10_of {σ σ1 : am_H} (a b : Int) (h : RR σ σ1) : am_Mi yX10_of cX10_of 3 (some .int) 3 0 0 [vr 63, vi a, vi b] SH σ1 (fun r sh' σ' => SH = sh' ∧ Q10_of σ1 σ' a b r) :=
  m_X10_of (a := a) (b := b) (σ := σ1) (hp := kh10_0 h) (hc := kh10_1 h) (hd := kh10_4 h) (ha := kh10_5 h)
def Q9_feed (σ σ1 : am_H) (a r1 : Int) : Prop := ((¬ (0 ≤ a ∧ a ≤ 255) ∧ r1 = -1 ∧ σ = σ1) ∨ (((0 ≤ a ∧ a ≤ 255) ∧ σ 9 6 = 120) ∧ r1 = -3 ∧ σ = σ1) ∨ (((0 ≤ a ∧ a ≤ 255) ∧ σ 9 6 < 120) ∧ r1 = σ 9 6 + 1 ∧ (am_up (am_up σ 10 (σ 9 6).toNat a) 9 6 (σ 9 6 + 1)) = σ1))
def Q10_feed (σ1 σ2 : am_H) (a r2 : Int) : Prop := ((¬ (0 ≤ a ∧ a ≤ 255) ∧ r2 = -1 ∧ σ1 = σ2) ∨ (((0 ≤ a ∧ a ≤ 255) ∧ σ1 63 11 = 120) ∧ r2 = -3 ∧ σ1 = σ2) ∨ (((0 ≤ a ∧ a ≤ 255) ∧ σ1 63 11 < 120) ∧ r2 = σ1 63 11 + 1 ∧ (am_up (am_up σ1 69 (σ1 63 11).toNat a) 63 11 (σ1 63 11 + 1)) = σ2))
theorem k9_feed {σ : am_H} (a : Int) (h : RR σ σ) : am_Mi yX9_feed cX9_feed 2 (some .int) 1 0 0 [vr 0, vi a] SH σ (fun r sh' σ' => SH = sh' ∧ Q9_feed σ σ' a r) :=
  m_X9_feed (a := a) (σ := σ) (ht := kh9_6 h)
theorem k10_feed {σ σ1 : am_H} (a : Int) (h : RR σ σ1) : am_Mi yX10_feed cX10_feed 2 (some .int) 1 0 0 [vr 63, vi a] SH σ1 (fun r sh' σ' => SH = sh' ∧ Q10_feed σ1 σ' a r) :=
  m_X10_feed (a := a) (σ := σ1) (ht := kh10_6 h)
def Q9_law (σ σ1 : am_H) (r1 : Int) : Prop := ((∀ c k : Nat, c ≠ 9 → c ≠ 11 → c ≠ 12 → c ≠ 13 → σ1 c k = σ c k) ∧ σ1 9 6 = 0) ∧ ((∃ f : Nat, r1 = -100 - (f : Int) ∧ lx_bad (σ 10) (σ 9 6).toNat f ∧ σ1 9 7 = σ 9 7 ∧ ∀ k, σ1 11 k = σ 11 k) ∨ (r1 = 1 ∧ ∃ rc, lx_cmp (σ 10) (σ 9 6).toNat = some rc ∧ σ1 9 7 = (rc.length : Int) ∧ rc = rcl σ1 11 rc.length ∧ rc.length ≤ 121))
def Q10_law (σ1 σ2 : am_H) (r2 : Int) : Prop := (∀ c k : Nat, c ≠ 70 → (c ≠ 63 ∨ k < 11 ∨ k = 12 ∨ 18 < k) → σ2 c k = σ1 c k) ∧ σ2 63 11 = 0 ∧ ((∃ f : Nat, r2 = -100 - (f : Int) ∧ lx_bad (σ1 69) (σ1 63 11).toNat f ∧ σ2 63 13 = σ1 63 13 ∧ ∀ k, σ2 70 k = σ1 70 k) ∨ (r2 = 1 ∧ (∃ rc, lx_cmp (σ1 69) (σ1 63 11).toNat = some rc ∧ lx_tot rc) ∧ σ2 63 13 = σ1 63 11 ∧ ∀ k : Nat, (k : Int) < σ1 63 11 → σ2 70 k = σ1 69 k))
theorem k9_law {σ : am_H} (h : RR σ σ) : am_Mi yX9_law cX9_law 1 (some .int) 6 0 0 [vr 0] SH σ (fun r sh' σ' => SH = sh' ∧ Q9_law σ σ' r) :=
  m_X9_law (σ := σ) (hta := kh9_6 h)
theorem k10_law {σ σ1 : am_H} (h : RR σ σ1) : am_Mi yX10_law cX10_law 4 (some .int) 45 0 0 [vr 63] SH σ1 (fun r sh' σ' => SH = sh' ∧ Q10_law σ1 σ' r) :=
  m_X10_law (σ := σ1) (ht := kh10_6 h)
def Q9_worth (σ σ1 : am_H) (a b r1 : Int) : Prop := c_fr σ σ1 ∧ r1 = (if c_pair σ a ∧ 0 ≤ b ∧ b ≤ 47 then c_wv σ (a / 10) (a % 10) b else -1)
def Q10_worth (σ1 σ2 : am_H) (a b r2 : Int) : Prop := md_fr σ1 σ2 ∧ r2 = (if md_pair σ1 a ∧ 0 ≤ b ∧ b ≤ 47 then md_wv σ1 (a / 10) (a % 10) b else -1)
theorem k9_worth {σ : am_H} (a b : Int) (h : RR σ σ) : am_Mi yX9_worth cX9_worth 3 (some .int) 4 0 0 [vr 0, vi a, vi b] SH σ (fun r sh' σ' => SH = sh' ∧ Q9_worth σ σ' a b r) :=
  m_X9_worth (a := a) (b := b) (σ := σ) (hp := kh9_0 h) (hlaw := kh9_7 h) (hls := kh9_8 h)
theorem k10_worth {σ σ1 : am_H} (a b : Int) (h : RR σ σ1) : am_Mi yX10_worth cX10_worth 3 (some .int) 46 0 0 [vr 63, vi a, vi b] SH σ1 (fun r sh' σ' => SH = sh' ∧ Q10_worth σ1 σ' a b r) :=
  m_X10_worth (a := a) (b := b) (σ := σ1) (hp := kh10_0 h) (hlaw := kh10_7 h) (hls := kh10_8 h)
def Q9_ask (σ σ1 : am_H) (a b r1 : Int) : Prop := ((¬ ((0 ≤ a ∧ a < σ 16 5) ∧ (σ 22 7 + 3 ≤ b ∧ b ≤ 47) ∧ ¬ b % 4 = 3) ∧ r1 = -1 ∧ σ = σ1) ∨ ((((0 ≤ a ∧ a < σ 16 5) ∧ (σ 22 7 + 3 ≤ b ∧ b ≤ 47) ∧ ¬ b % 4 = 3) ∧ ¬ 0 < σ 19 a.toNat) ∧ r1 = -5 ∧ σ = σ1) ∨ ((((0 ≤ a ∧ a < σ 16 5) ∧ (σ 22 7 + 3 ≤ b ∧ b ≤ 47) ∧ ¬ b % 4 = 3) ∧ 0 < σ 19 a.toNat ∧ σ 22 6 = 30) ∧ r1 = -3 ∧ σ = σ1) ∨ ((((0 ≤ a ∧ a < σ 16 5) ∧ (σ 22 7 + 3 ≤ b ∧ b ≤ 47) ∧ ¬ b % 4 = 3) ∧ 0 < σ 19 a.toNat ∧ σ 22 6 < 30) ∧ r1 = σ 22 6 ∧ (dia_add σ (σ 22 6).toNat a b) = σ1))
def Q10_ask (σ1 σ2 : am_H) (a b r2 : Int) : Prop := ((¬ ((0 ≤ a ∧ a < σ1 63 7) ∧ (σ1 63 9 + 3 ≤ b ∧ b ≤ 47) ∧ ¬ b % 4 = 3) ∧ r2 = -1 ∧ σ1 = σ2) ∨ ((((0 ≤ a ∧ a < σ1 63 7) ∧ (σ1 63 9 + 3 ≤ b ∧ b ≤ 47) ∧ ¬ b % 4 = 3) ∧ ¬ 0 < σ1 68 (5 * a.toNat + 2)) ∧ r2 = -5 ∧ σ1 = σ2) ∨ ((((0 ≤ a ∧ a < σ1 63 7) ∧ (σ1 63 9 + 3 ≤ b ∧ b ≤ 47) ∧ ¬ b % 4 = 3) ∧ 0 < σ1 68 (5 * a.toNat + 2) ∧ σ1 63 20 = 30) ∧ r2 = -3 ∧ σ1 = σ2) ∨ ((((0 ≤ a ∧ a < σ1 63 7) ∧ (σ1 63 9 + 3 ≤ b ∧ b ≤ 47) ∧ ¬ b % 4 = 3) ∧ 0 < σ1 68 (5 * a.toNat + 2) ∧ σ1 63 20 < 30) ∧ r2 = σ1 63 20 ∧ (md_ask σ1 (σ1 63 20).toNat a b) = σ2))
theorem k9_ask {σ : am_H} (a b : Int) (h : RR σ σ) : am_Mi yX9_ask cX9_ask 3 (some .int) 3 0 0 [vr 0, vi a, vi b] SH σ (fun r sh' σ' => SH = sh' ∧ Q9_ask σ σ' a b r) :=
  m_X9_ask (a := a) (b := b) (σ := σ) (hc := kh9_1 h) (ha := kh9_5 h) (hn := kh9_9 h)
theorem k10_ask {σ σ1 : am_H} (a b : Int) (h : RR σ σ1) : am_Mi yX10_ask cX10_ask 3 (some .int) 2 0 0 [vr 63, vi a, vi b] SH σ1 (fun r sh' σ' => SH = sh' ∧ Q10_ask σ1 σ' a b r) :=
  m_X10_ask (a := a) (b := b) (σ := σ1) (hc := kh10_1 h) (ha := kh10_5 h) (hn := kh10_9 h)
def Q9_has (σ σ1 : am_H) (a b r1 : Int) : Prop := c_fr σ σ1 ∧ r1 = (if (0 ≤ a ∧ a < σ 1 2) ∧ σ 22 7 ≤ b ∧ b ≤ 47 then (if (c_sel σ a b (σ 22 6).toNat).1 < 0 then -2 else σ 18 (σ 23 (c_sel σ a b (σ 22 6).toNat).1.toNat).toNat) else -1)
def Q10_has (σ1 σ2 : am_H) (a b r2 : Int) : Prop := md_fr σ1 σ2 ∧ r2 = (if (0 ≤ a ∧ a < σ1 63 6) ∧ σ1 63 9 ≤ b ∧ b ≤ 47 then (if (md_sel σ1 a b (σ1 63 20).toNat).1 < 0 then -2 else σ1 68 (5 * (σ1 72 (3 * (md_sel σ1 a b (σ1 63 20).toNat).1.toNat)).toNat + 1)) else -1)
theorem k9_has {σ : am_H} (a b : Int) (h : RR σ σ) : am_Mi yX9_has cX9_has 4 (some .int) 5 0 0 [vr 0, vi a, vi b] SH σ (fun r sh' σ' => SH = sh' ∧ Q9_has σ σ' a b r) :=
  m_X9_has (σ := σ) (a := a) (b := b) (hp := kh9_0 h) (hc := kh9_1 h) (hd := kh9_4 h) (hlaw := kh9_7 h) (hski := kh9_10 h) (hdeb := kh9_11 h) (ha := kh9_5 h) (hask := kh9_12 h) (hn := kh9_9 h)
theorem k10_has {σ σ1 : am_H} (a b : Int) (h : RR σ σ1) : am_Mi yX10_has cX10_has 4 (some .int) 48 0 0 [vr 63, vi a, vi b] SH σ1 (fun r sh' σ' => SH = sh' ∧ Q10_has σ1 σ' a b r) :=
  m_X10_has (σ := σ1) (a := a) (b := b) (hp := kh10_0 h) (hc := kh10_1 h) (hd := kh10_4 h) (hlaw := kh10_7 h) (hski := kh10_10 h) (hdeb := kh10_11 h) (ha := kh10_5 h) (hask := kh10_12 h) (hn := kh10_9 h)
def Q9_go (σ σ1 : am_H) (seed n r1 : Int) : Prop := ((((1 ≤ n ∧ n ≤ 48) ∧ n ≤ 48 - σ 22 7) ∧ c_fr (c_go n.toNat seed σ).2.2 σ1 ∧ r1 = (c_go n.toNat seed σ).2.1) ∨ (¬ ((1 ≤ n ∧ n ≤ 48) ∧ n ≤ 48 - σ 22 7) ∧ c_fr σ σ1 ∧ r1 = (if 1 ≤ n ∧ n ≤ 48 then -5 else -1)))
def Q10_go (σ1 σ2 : am_H) (seed n r2 : Int) : Prop := ((((1 ≤ n ∧ n ≤ 48) ∧ n ≤ 48 - σ1 63 9) ∧ md_fr (md_go n.toNat seed σ1).2 σ2 ∧ r2 = (md_go n.toNat seed σ1).1) ∨ (¬ ((1 ≤ n ∧ n ≤ 48) ∧ n ≤ 48 - σ1 63 9) ∧ σ1 = σ2 ∧ r2 = (if 1 ≤ n ∧ n ≤ 48 then -5 else -1)))
theorem k9_go {σ : am_H} (seed n : Int) (h : RR σ σ) : am_Mi yX9_go cX9_go 8 (some .int) 6 0 0 [vr 0, vi seed, vi n] SH σ (fun r sh' σ' => SH = sh' ∧ Q9_go σ σ' seed n r) :=
  m_X9_go (σ := σ) (seed := seed) (n := n) (hg := kh9_13 h) (hn := kh9_9 h)
theorem k10_go {σ σ1 : am_H} (seed n : Int) (h : RR σ σ1) : am_Mi yX10_go cX10_go 5 (some .int) 49 0 0 [vr 63, vi seed, vi n] SH σ1 (fun r sh' σ' => SH = sh' ∧ Q10_go σ1 σ' seed n r) :=
  m_X10_go (σ := σ1) (seed := seed) (n := n) (hg := kh10_13 h) (hn := kh10_9 h)
def Q9_led (σ σ1 : am_H) (a b r1 : Int) : Prop := σ = σ1 ∧ r1 = (if 0 ≤ a ∧ a / 10 < σ 22 7 ∧ (0 ≤ a % 10 ∧ a % 10 < σ 1 2) ∧ 0 ≤ b ∧ b ≤ 1 then (if b = 0 then σ 26 (a / 10 * 8 + a % 10).toNat else σ 27 (a / 10 * 8 + a % 10).toNat) else -1)
def Q10_led (σ1 σ2 : am_H) (a b r2 : Int) : Prop := σ1 = σ2 ∧ r2 = (if 0 ≤ a ∧ a / 10 < σ1 63 9 ∧ (0 ≤ a % 10 ∧ a % 10 < σ1 63 6) ∧ 0 ≤ b ∧ b ≤ 1 then (if b = 0 then σ1 74 (8 * (a / 10) + a % 10).toNat else σ1 75 (8 * (a / 10) + a % 10).toNat) else -1)
theorem k9_led {σ : am_H} (a b : Int) (h : RR σ σ) : am_Mi yX9_led cX9_led 4 (some .int) 2 0 0 [vr 0, vi a, vi b] SH σ (fun r sh' σ' => SH = sh' ∧ Q9_led σ σ' a b r) :=
  m_X9_led (a := a) (b := b) (σ := σ) (hp := kh9_0 h) (hn := kh9_9 h)
theorem k10_led {σ σ1 : am_H} (a b : Int) (h : RR σ σ1) : am_Mi yX10_led cX10_led 4 (some .int) 2 0 0 [vr 63, vi a, vi b] SH σ1 (fun r sh' σ' => SH = sh' ∧ Q10_led σ1 σ' a b r) :=
  m_X10_led (a := a) (b := b) (σ := σ1) (hp := kh10_0 h) (hn := kh10_9 h)
def Q9_waits (σ σ1 : am_H) (r1 : Int) : Prop := σ = σ1 ∧ r1 = am_sum (fun n : Nat => if σ 25 n = 0 then 1 else 0) (σ 22 6).toNat
def Q10_waits (σ1 σ2 : am_H) (r2 : Int) : Prop := σ1 = σ2 ∧ r2 = am_sum (fun n : Nat => if σ1 72 (3 * n + 2) = 0 then 1 else 0) (σ1 63 20).toNat ∧ 0 ≤ r2 ∧ r2 ≤ 180
theorem k9_waits {σ : am_H} (h : RR σ σ) : am_Mi yX9_waits cX9_waits 1 (some .int) 1 0 0 [vr 0] SH σ (fun r sh' σ' => SH = sh' ∧ Q9_waits σ σ' r) :=
  m_X9_waits (σ := σ) (ha := kh9_5 h)
theorem k10_waits {σ σ1 : am_H} (h : RR σ σ1) : am_Mi yX10_waits cX10_waits 3 (some .int) 0 0 0 [vr 63] SH σ1 (fun r sh' σ' => SH = sh' ∧ Q10_waits σ1 σ' r) :=
  m_X10_waits (σ := σ1) (ha := kh10_5 h)
def Q9_bestDay (σ σ1 : am_H) (a b r1 : Int) : Prop := c_fr σ σ1 ∧ r1 = (if (0 ≤ a ∧ a < σ 16 5) ∧ 0 ≤ b ∧ b ≤ 1 then (if 0 < σ 19 a.toNat then (if b = 0 then (bs_f (fun d => c_wv σ (σ 17 a.toNat) (σ 18 a.toNat) d) (σ 22 7 + 3) (45 - σ 22 7).toNat).1 else (bs_f (fun d => c_wv σ (σ 17 a.toNat) (σ 18 a.toNat) d) (σ 22 7 + 3) (45 - σ 22 7).toNat).2) else -5) else -1)
def Q10_bestDay (σ1 σ2 : am_H) (a b r2 : Int) : Prop := md_fr σ1 σ2 ∧ r2 = (if (0 ≤ a ∧ a < σ1 63 7) ∧ 0 ≤ b ∧ b ≤ 1 then (if 0 < σ1 68 (5 * a.toNat + 2) then (if b = 0 then (bs_f (fun d => md_wv σ1 (σ1 68 (5 * a.toNat)) (σ1 68 (5 * a.toNat + 1)) d) (σ1 63 9 + 3) (45 - σ1 63 9).toNat).1 else (bs_f (fun d => md_wv σ1 (σ1 68 (5 * a.toNat)) (σ1 68 (5 * a.toNat + 1)) d) (σ1 63 9 + 3) (45 - σ1 63 9).toNat).2) else -5) else -1)
theorem k9_bestDay {σ : am_H} (a b : Int) (h : RR σ σ) : am_Mi yX9_bestDay cX9_bestDay 7 (some .int) 3 0 0 [vr 0, vi a, vi b] SH σ (fun r sh' σ' => SH = sh' ∧ Q9_bestDay σ σ' a b r) :=
  m_X9_bestDay (σ := σ) (a := a) (b := b) (k := a.toNat) (hka := rfl) (hp := kh9_0 h) (hc := kh9_1 h) (hd := kh9_4 h) (hlaw := kh9_7 h) (hski := kh9_10 h) (hdeb := kh9_11 h) (hn := kh9_9 h)
theorem k10_bestDay {σ σ1 : am_H} (a b : Int) (h : RR σ σ1) : am_Mi yX10_bestDay cX10_bestDay 7 (some .int) 46 0 0 [vr 63, vi a, vi b] SH σ1 (fun r sh' σ' => SH = sh' ∧ Q10_bestDay σ1 σ' a b r) :=
  m_X10_bestDay (σ := σ1) (a := a) (b := b) (k := a.toNat) (hka := rfl) (hp := kh10_0 h) (hc := kh10_1 h) (hd := kh10_4 h) (hlaw := kh10_7 h) (hski := kh10_10 h) (hdeb := kh10_11 h) (hn := kh10_9 h)
def Q9_plan (σ σ1 : am_H) (a b r1 : Int) : Prop := (∀ c k : Nat, c ≠ 14 → c ≠ 15 → c ≠ 50 → σ1 c k = σ c k) ∧ r1 = (if (0 ≤ a ∧ a < σ 1 2) ∧ 0 ≤ b ∧ b ≤ 47 then am_sum (fun k : Nat => pl_T (fun d => c_wv σ (k : Int) a d) (σ 22 7 + 3) (b + 1 - (σ 22 7 + 3)).toNat (c_owed σ (k : Int) a)) (σ 1 2).toNat else -1)
def Q10_plan (σ1 σ2 : am_H) (a b r2 : Int) : Prop := md_frp σ1 σ2 ∧ r2 = (if (0 ≤ a ∧ a < σ1 63 6) ∧ 0 ≤ b ∧ b ≤ 47 then am_sum (fun k : Nat => pl_T (fun d => md_wv σ1 (k : Int) a d) (σ1 63 9 + 3) (b + 1 - (σ1 63 9 + 3)).toNat (md_owed σ1 (k : Int) a)) (σ1 63 6).toNat else -1)
theorem k9_plan {σ : am_H} (a b : Int) (h : RR σ σ) : am_Mi yX9_plan cX9_plan 6 (some .int) 4 0 0 [vr 0, vi a, vi b] SH σ (fun r sh' σ' => SH = sh' ∧ Q9_plan σ σ' a b r) :=
  m_X9_plan (σ := σ) (a := a) (b := b) (hp := kh9_0 h) (hc := kh9_1 h) (hd := kh9_4 h) (hlaw := kh9_7 h) (hski := kh9_10 h) (hn := kh9_9 h)
theorem k10_plan {σ σ1 : am_H} (a b : Int) (h : RR σ σ1) : am_Mi yX10_plan cX10_plan 5 (some .int) 47 0 0 [vr 63, vi a, vi b] SH σ1 (fun r sh' σ' => SH = sh' ∧ Q10_plan σ1 σ' a b r) :=
  m_X10_plan (σ := σ1) (a := a) (b := b) (hp := kh10_0 h) (hc := kh10_1 h) (hd := kh10_4 h) (hlaw := kh10_7 h) (hski := kh10_10 h) (hn := kh10_9 h)
def Q9_free (σ σ1 : am_H) (a b r1 : Int) : Prop := σ = σ1 ∧ r1 = (if (0 ≤ a ∧ a < σ 1 2) ∧ 0 ≤ b ∧ b ≤ 47 then am_sum (fun n : Nat => if (σ 22 7 + 3 + (n : Int)) % 4 = 3 then 0 else 1) (b + 1 - (σ 22 7 + 3)).toNat - c_by σ a else -2000000000)
def Q10_free (σ1 σ2 : am_H) (a b r2 : Int) : Prop := σ1 = σ2 ∧ r2 = (if (0 ≤ a ∧ a < σ1 63 6) ∧ 0 ≤ b ∧ b ≤ 47 then am_sum (fun n : Nat => if (σ1 63 9 + 3 + (n : Int)) % 4 = 3 then 0 else 1) (b + 1 - (σ1 63 9 + 3)).toNat - md_by σ1 a else -2000000000)
theorem k9_free {σ : am_H} (a b : Int) (h : RR σ σ) : am_Mi yX9_free cX9_free 5 (some .int) 2 0 0 [vr 0, vi a, vi b] SH σ (fun r sh' σ' => SH = sh' ∧ Q9_free σ σ' a b r) :=
  m_X9_free (a := a) (b := b) (σ := σ) (hp := kh9_0 h) (hc := kh9_1 h) (hd := kh9_4 h) (hn := kh9_9 h)
theorem k10_free {σ σ1 : am_H} (a b : Int) (h : RR σ σ1) : am_Mi yX10_free cX10_free 5 (some .int) 2 0 0 [vr 63, vi a, vi b] SH σ1 (fun r sh' σ' => SH = sh' ∧ Q10_free σ1 σ' a b r) :=
  m_X10_free (a := a) (b := b) (σ := σ1) (hp := kh10_0 h) (hc := kh10_1 h) (hd := kh10_4 h) (hn := kh10_9 h)
def Q9_ring (σ σ1 : am_H) (r1 : Int) : Prop := σ = σ1 ∧ ∃ x, c_rg σ x ∧ r1 = (if x = 0 then -2 else x)
def Q10_ring (σ1 σ2 : am_H) (r2 : Int) : Prop := md_frr σ1 σ2 ∧ m_rg σ1 r2 ∧ r2 < 1048576
theorem k9_ring {σ : am_H} (h : RR σ σ) : am_Mi yX9_ring cX9_ring 2 (some .int) 9 0 0 [vr 0] SH σ (fun r sh' σ' => SH = sh' ∧ Q9_ring σ σ' r) :=
  m_X9_ring (σ := σ) (hc := kh9_1 h) (hp := kh9_0 h) (hdeb := kh9_11 h)
theorem k10_ring {σ σ1 : am_H} (h : RR σ σ1) : am_Mi yX10_ring cX10_ring 2 (some .int) 9 0 0 [vr 63] SH σ1 (fun r sh' σ' => SH = sh' ∧ Q10_ring σ1 σ' r) :=
  m_X10_ring (σ := σ1) (hp := kh10_0 h) (hc := kh10_1 h) (hdeb := kh10_11 h)
def Q9_wiped (σ σ1 : am_H) (r1 : Int) : Prop := (∀ c k : Nat, c ≠ 43 → c ≠ 44 → c ≠ 45 → σ1 c k = σ c k) ∧ (σ1 44 0 = 0 ∧ σ1 45 0 = 0) ∧ wp_ch (σ1 45) (c_net σ) (σ 1 2).toNat (2 ^ (σ 1 2).toNat) ∧ r1 = ((σ 1 2).toNat : Int) - σ1 45 (2 ^ (σ 1 2).toNat - 1)
def Q10_wiped (σ1 σ2 : am_H) (r2 : Int) : Prop := (∀ c k : Nat, c ≠ 77 → c ≠ 78 → σ2 c k = σ1 c k) ∧ wp_ch (σ2 78) (md_net σ1) (σ1 63 6).toNat (2 ^ (σ1 63 6).toNat) ∧ r2 = ((σ1 63 6).toNat : Int) - σ2 78 (2 ^ (σ1 63 6).toNat - 1)
theorem k9_wiped {σ : am_H} (h : RR σ σ) : am_Mi yX9_wiped cX9_wiped 1 (some .int) 2 0 0 [vr 0] SH σ (fun r sh' σ' => SH = sh' ∧ Q9_wiped σ σ' r) :=
  m_X9_wiped (σ := σ) (P := (σ 1 2).toNat) (N := 2 ^ (σ 1 2).toNat) (hPP := by have q := kh9_0 h; omega) (hPe := by have q := kh9_0 h; omega) (hN := rfl) (hp := kh9_0 h) (hc := kh9_1 h) (hd := kh9_4 h) (hdeb := kh9_11 h) (hun := kh9_14 h) (h00 := kh9_15 h)
theorem k10_wiped {σ σ1 : am_H} (h : RR σ σ1) : am_Mi yX10_wiped cX10_wiped 5 (some .int) 1 0 0 [vr 63] SH σ1 (fun r sh' σ' => SH = sh' ∧ Q10_wiped σ1 σ' r) :=
  m_X10_wiped (σ := σ1) (P := (σ1 63 6).toNat) (N := 2 ^ (σ1 63 6).toNat) (hPP := by have q := kh10_0 h; omega) (hPe := by have q := kh10_0 h; omega) (hN := rfl) (hc := kh10_1 h) (hd := kh10_4 h)
def Q9_balance (σ σ1 : am_H) (a r1 : Int) : Prop := σ = σ1 ∧ r1 = (if 0 ≤ a ∧ a < σ 1 2 then c_to σ a - c_by σ a else -2000000000)
def Q10_balance (σ1 σ2 : am_H) (a r2 : Int) : Prop := σ1 = σ2 ∧ r2 = (if 0 ≤ a ∧ a < σ1 63 6 then md_to σ1 a - md_by σ1 a else -2000000000)
theorem k9_balance {σ : am_H} (a : Int) (h : RR σ σ) : am_Mi yX9_balance cX9_balance 2 (some .int) 2 0 0 [vr 0, vi a] SH σ (fun r sh' σ' => SH = sh' ∧ Q9_balance σ σ' a r) :=
  m_X9_balance (a := a) (σ := σ) (hp := kh9_0 h) (hc := kh9_1 h) (hd := kh9_4 h)
theorem k10_balance {σ σ1 : am_H} (a : Int) (h : RR σ σ1) : am_Mi yX10_balance cX10_balance 2 (some .int) 2 0 0 [vr 63, vi a] SH σ1 (fun r sh' σ' => SH = sh' ∧ Q10_balance σ1 σ' a r) :=
  m_X10_balance (a := a) (σ := σ1) (hp := kh10_0 h) (hc := kh10_1 h) (hd := kh10_4 h)
def Q9_hand (σ σ1 : am_H) (a r1 : Int) : Prop := ((¬ (0 ≤ a ∧ (0 ≤ a / 100 ∧ a / 100 < σ 16 5) ∧ (0 ≤ a % 100 ∧ a % 100 < σ 16 5)) ∧ r1 = -1 ∧ σ = σ1) ∨ ((0 ≤ a ∧ (0 ≤ a / 100 ∧ a / 100 < σ 16 5) ∧ (0 ≤ a % 100 ∧ a % 100 < σ 16 5)) ∧ ((0 < σ 19 (a / 100).toNat ∧ 0 < σ 19 (a % 100).toNat ∧ σ 18 (a / 100).toNat = σ 17 (a % 100).toNat ∧ σ 17 (a / 100).toNat ≠ σ 18 (a % 100).toNat) ∧ σ 20 (a / 100).toNat = σ 20 (a % 100).toNat ∧ σ 19 (a / 100).toNat = σ 19 (a % 100).toNat ∧ σ 21 (a / 100).toNat = σ 21 (a % 100).toNat) ∧ r1 = 1 ∧ (led_less (am_up σ 18 (a / 100).toNat (σ 18 (a % 100).toNat)) (a % 100).toNat (σ 19 (a % 100).toNat)) = σ1) ∨ ((0 ≤ a ∧ (0 ≤ a / 100 ∧ a / 100 < σ 16 5) ∧ (0 ≤ a % 100 ∧ a % 100 < σ 16 5)) ∧ ¬ ((0 < σ 19 (a / 100).toNat ∧ 0 < σ 19 (a % 100).toNat ∧ σ 18 (a / 100).toNat = σ 17 (a % 100).toNat ∧ σ 17 (a / 100).toNat ≠ σ 18 (a % 100).toNat) ∧ σ 20 (a / 100).toNat = σ 20 (a % 100).toNat ∧ σ 19 (a / 100).toNat = σ 19 (a % 100).toNat ∧ σ 21 (a / 100).toNat = σ 21 (a % 100).toNat) ∧ r1 = -2 ∧ σ = σ1))
def Q10_hand (σ1 σ2 : am_H) (a r2 : Int) : Prop := ((¬ (0 ≤ a ∧ (0 ≤ a / 100 ∧ a / 100 < σ1 63 7) ∧ (0 ≤ a % 100 ∧ a % 100 < σ1 63 7)) ∧ r2 = -1 ∧ σ1 = σ2) ∨ (((0 ≤ a ∧ (0 ≤ a / 100 ∧ a / 100 < σ1 63 7) ∧ (0 ≤ a % 100 ∧ a % 100 < σ1 63 7)) ∧ ¬ (a / 100 ≠ a % 100 ∧ 0 < σ1 68 (5 * (a / 100).toNat + 2) ∧ 0 < σ1 68 (5 * (a % 100).toNat + 2) ∧ (σ1 68 (5 * (a / 100).toNat + 2) = σ1 68 (5 * (a % 100).toNat + 2) ∧ σ1 68 (5 * (a / 100).toNat + 3) = σ1 68 (5 * (a % 100).toNat + 3) ∧ σ1 68 (5 * (a / 100).toNat + 4) = σ1 68 (5 * (a % 100).toNat + 4)) ∧ σ1 68 (5 * (a / 100).toNat + 1) = σ1 68 (5 * (a % 100).toNat) ∧ σ1 68 (5 * (a % 100).toNat + 1) ≠ σ1 68 (5 * (a / 100).toNat))) ∧ r2 = -2 ∧ σ1 = σ2) ∨ (((0 ≤ a ∧ (0 ≤ a / 100 ∧ a / 100 < σ1 63 7) ∧ (0 ≤ a % 100 ∧ a % 100 < σ1 63 7)) ∧ (a / 100 ≠ a % 100 ∧ 0 < σ1 68 (5 * (a / 100).toNat + 2) ∧ 0 < σ1 68 (5 * (a % 100).toNat + 2) ∧ (σ1 68 (5 * (a / 100).toNat + 2) = σ1 68 (5 * (a % 100).toNat + 2) ∧ σ1 68 (5 * (a / 100).toNat + 3) = σ1 68 (5 * (a % 100).toNat + 3) ∧ σ1 68 (5 * (a / 100).toNat + 4) = σ1 68 (5 * (a % 100).toNat + 4)) ∧ σ1 68 (5 * (a / 100).toNat + 1) = σ1 68 (5 * (a % 100).toNat) ∧ σ1 68 (5 * (a % 100).toNat + 1) ≠ σ1 68 (5 * (a / 100).toNat))) ∧ r2 = 1 ∧ (md_less (am_up σ1 68 (5 * (a / 100).toNat + 1) (σ1 68 (5 * (a % 100).toNat + 1))) (a % 100).toNat (σ1 68 (5 * (a % 100).toNat + 2))) = σ2))
theorem k9_hand {σ : am_H} (a : Int) (h : RR σ σ) : am_Mi yX9_hand cX9_hand 2 (some .int) 4 0 0 [vr 0, vi a] SH σ (fun r sh' σ' => SH = sh' ∧ Q9_hand σ σ' a r) :=
  m_X9_hand (a := a) (σ := σ) (hc := kh9_1 h) (hd := kh9_4 h)
theorem k10_hand {σ σ1 : am_H} (a : Int) (h : RR σ σ1) : am_Mi yX10_hand cX10_hand 5 (some .int) 2 0 0 [vr 63, vi a] SH σ1 (fun r sh' σ' => SH = sh' ∧ Q10_hand σ1 σ' a r) :=
  m_X10_hand (a := a) (σ := σ1) (hc := kh10_1 h) (hd := kh10_4 h)
def Q9_strike (σ σ1 : am_H) (n r1 : Int) : Prop := ∃ x, c_rg σ x ∧ ((x = 0 ∧ σ = σ1 ∧ r1 = -2) ∨ (x ≠ 0 ∧ led_strike x (led_least σ x (σ 16 5).toNat) (σ 16 5).toNat σ = σ1 ∧ r1 = led_least σ x (σ 16 5).toNat))
def Q10_strike (σ1 σ2 : am_H) (n r2 : Int) : Prop := ∃ τ x, md_frr σ1 τ ∧ m_rg σ1 x ∧ x < 1048576 ∧ ((x < 0 ∧ τ = σ2 ∧ r2 = -2) ∨ (0 ≤ x ∧ m_strike x (m_least σ1 x (σ1 63 7).toNat) (σ1 63 7).toNat τ = σ2 ∧ r2 = m_least σ1 x (σ1 63 7).toNat))
theorem k9_strike {σ : am_H} (n : Int) (h : RR σ σ) : am_Mi yX9_strike cX9_strike 2 (some .int) 9 0 0 [vr 0] SH σ (fun r sh' σ' => SH = sh' ∧ Q9_strike σ σ' n r) :=
  m_X9_strike (σ := σ) (hc := kh9_1 h) (hd := kh9_4 h) (hp := kh9_0 h) (hdeb := kh9_11 h)
theorem k10_strike {σ σ1 : am_H} (n : Int) (h : RR σ σ1) : am_Mi yX10_strike cX10_strike 4 (some .int) 10 0 0 [vr 63] SH σ1 (fun r sh' σ' => SH = sh' ∧ Q10_strike σ1 σ' n r) :=
  m_X10_strike (σ := σ1) (hp := kh10_0 h) (hc := kh10_1 h) (hd := kh10_4 h) (hdeb := kh10_11 h)
def Q9_runaway (σ σ1 : am_H) (a r1 : Int) : Prop := ((¬ (0 ≤ a ∧ a < σ 1 2) ∧ r1 = -1 ∧ σ = σ1) ∨ ((0 ≤ a ∧ a < σ 1 2) ∧ r1 = c_by σ a ∧ (led_drop a (σ 16 5).toNat σ) = σ1))
def Q10_runaway (σ1 σ2 : am_H) (a r2 : Int) : Prop := ((¬ (0 ≤ a ∧ a < σ1 63 6) ∧ r2 = -1 ∧ σ1 = σ2) ∨ ((0 ≤ a ∧ a < σ1 63 6) ∧ r2 = md_by σ1 a ∧ md_drop a (σ1 63 7).toNat σ1 = σ2))
theorem k9_runaway {σ : am_H} (a : Int) (h : RR σ σ) : am_Mi yX9_runaway cX9_runaway 2 (some .int) 2 0 0 [vr 0, vi a] SH σ (fun r sh' σ' => SH = sh' ∧ Q9_runaway σ σ' a r) :=
  m_X9_runaway (a := a) (σ := σ) (hp := kh9_0 h) (hc := kh9_1 h) (hd := kh9_4 h)
theorem k10_runaway {σ σ1 : am_H} (a : Int) (h : RR σ σ1) : am_Mi yX10_runaway cX10_runaway 4 (some .int) 2 0 0 [vr 63, vi a] SH σ1 (fun r sh' σ' => SH = sh' ∧ Q10_runaway σ1 σ' a r) :=
  m_X10_runaway (a := a) (σ := σ1) (hp := kh10_0 h) (hc := kh10_1 h) (hd := kh10_4 h)
def Q9_heir (σ σ1 : am_H) (a r1 : Int) : Prop := ((¬ c_pair σ a ∧ r1 = -1 ∧ σ = σ1) ∨ (c_pair σ a ∧ r1 = am_sum (led_moved σ (a / 10) (a % 10)) (σ 16 5).toNat ∧ (led_inh (a / 10) (a % 10) (σ 16 5).toNat σ) = σ1))
def Q10_heir (σ1 σ2 : am_H) (a r2 : Int) : Prop := ((¬ md_pair σ1 a ∧ r2 = -1 ∧ σ1 = σ2) ∨ (md_pair σ1 a ∧ r2 = am_sum (md_moved σ1 (a / 10) (a % 10)) (σ1 63 7).toNat ∧ md_inh (a / 10) (a % 10) (σ1 63 7).toNat σ1 = σ2))
theorem k9_heir {σ : am_H} (a : Int) (h : RR σ σ) : am_Mi yX9_heir cX9_heir 2 (some .int) 4 0 0 [vr 0, vi a] SH σ (fun r sh' σ' => SH = sh' ∧ Q9_heir σ σ' a r) :=
  m_X9_heir (a := a) (σ := σ) (hp := kh9_0 h) (hc := kh9_1 h) (hd := kh9_4 h)
theorem k10_heir {σ σ1 : am_H} (a : Int) (h : RR σ σ1) : am_Mi yX10_heir cX10_heir 8 (some .int) 3 0 0 [vr 63, vi a] SH σ1 (fun r sh' σ' => SH = sh' ∧ Q10_heir σ1 σ' a r) :=
  m_X10_heir (a := a) (σ := σ1) (hp := kh10_0 h) (hc := kh10_1 h) (hd := kh10_4 h)
def Q9_judge (σ σ1 : am_H) (a r1 : Int) : Prop := ((¬ (0 ≤ a ∧ a ≤ 5) ∧ r1 = -1 ∧ σ = σ1) ∨ (((0 ≤ a ∧ a ≤ 5) ∧ (σ (51 + 2 * a.toNat) 1 < 0 ∧ σ (51 + 2 * a.toNat) 2 < 0)) ∧ r1 = -11 ∧ σ = σ1) ∨ (((0 ≤ a ∧ a ≤ 5) ∧ ¬ (σ (51 + 2 * a.toNat) 1 < 0 ∧ σ (51 + 2 * a.toNat) 2 < 0) ∧ σ (51 + 2 * a.toNat) 2 ≠ 1) ∧ r1 = -12 ∧ σ = σ1) ∨ (((0 ≤ a ∧ a ≤ 5) ∧ ¬ (σ (51 + 2 * a.toNat) 1 < 0 ∧ σ (51 + 2 * a.toNat) 2 < 0) ∧ σ (51 + 2 * a.toNat) 2 = 1) ∧ (∀ k : Nat, 3 * (k : Int) < σ (51 + 2 * a.toNat) 3 → c_so σ a.toNat k) ∧ r1 = -2 ∧ σ = σ1) ∨ (((0 ≤ a ∧ a ≤ 5) ∧ ¬ (σ (51 + 2 * a.toNat) 1 < 0 ∧ σ (51 + 2 * a.toNat) 2 < 0) ∧ σ (51 + 2 * a.toNat) 2 = 1) ∧ ∃ k : Nat, 3 * (k : Int) < σ (51 + 2 * a.toNat) 3 ∧ ¬ c_so σ a.toNat k ∧ (∀ j : Nat, j < k → c_so σ a.toNat j) ∧ r1 = k ∧ σ = σ1))
def Q10_judge (σ1 σ2 : am_H) (a r2 : Int) : Prop := ((md_book σ1 a < 0 ∧ r2 = md_book σ1 a ∧ σ1 = σ2) ∨ (0 ≤ md_book σ1 a ∧ (∀ k : Nat, 3 * (k : Int) < σ1 87 a.toNat → md_so σ1 a.toNat k) ∧ r2 = -2 ∧ σ1 = σ2) ∨ (0 ≤ md_book σ1 a ∧ ∃ k : Nat, 3 * (k : Int) < σ1 87 a.toNat ∧ ¬ md_so σ1 a.toNat k ∧ (∀ j : Nat, j < k → md_so σ1 a.toNat j) ∧ r2 = k ∧ σ1 = σ2))
theorem k9_judge {σ : am_H} (a : Int) (h : RR σ σ) : am_Mi yX9_judge cX9_judge 4 (some .int) 4 0 0 [vr 0, vi a] SH σ (fun r sh' σ' => SH = sh' ∧ Q9_judge σ σ' a r) :=
  m_X9_judge (a := a) (σ := σ) (hp := kh9_0 h) (hc := kh9_1 h) (hd := kh9_4 h) (hs := kh9_2 h)
theorem k10_judge {σ σ1 : am_H} (a : Int) (h : RR σ σ1) : am_Mi yX10_judge cX10_judge 4 (some .int) 3 0 0 [vr 63, vi a] SH σ1 (fun r sh' σ' => SH = sh' ∧ Q10_judge σ1 σ' a r) :=
  m_X10_judge (a := a) (σ := σ1) (hp := kh10_0 h) (hc := kh10_1 h) (hd := kh10_4 h) (hs := kh10_2 h)
def Q9_wet (σ σ1 : am_H) (a b r1 : Int) : Prop := σ = σ1 ∧ r1 = (if ((0 ≤ a ∧ a ≤ 5) ∧ c_pair σ b ∧ σ (51 + 2 * a.toNat) 2 = 1) then c_owed σ (b / 10) (b % 10) - am_sum (c_wetf σ a.toNat (b / 10) (b % 10)) (σ (51 + 2 * a.toNat) 3 / 3).toNat else -2000000000)
def Q10_wet (σ1 σ2 : am_H) (a b r2 : Int) : Prop := σ1 = σ2 ∧ r2 = (if (md_pair σ1 b ∧ 0 ≤ md_book σ1 a) then md_owed σ1 (b / 10) (b % 10) - am_sum (md_wetf σ1 a.toNat (b / 10) (b % 10)) (σ1 87 a.toNat / 3).toNat else -2000000000)
theorem k9_wet {σ : am_H} (a b : Int) (h : RR σ σ) : am_Mi yX9_wet cX9_wet 7 (some .int) 4 0 0 [vr 0, vi a, vi b] SH σ (fun r sh' σ' => SH = sh' ∧ Q9_wet σ σ' a b r) :=
  m_X9_wet (a := a) (b := b) (σ := σ) (hp := kh9_0 h) (hc := kh9_1 h) (hd := kh9_4 h) (hs := kh9_2 h)
theorem k10_wet {σ σ1 : am_H} (a b : Int) (h : RR σ σ1) : am_Mi yX10_wet cX10_wet 7 (some .int) 3 0 0 [vr 63, vi a, vi b] SH σ1 (fun r sh' σ' => SH = sh' ∧ Q10_wet σ1 σ' a b r) :=
  m_X10_wet (a := a) (b := b) (σ := σ1) (hp := kh10_0 h) (hc := kh10_1 h) (hd := kh10_4 h) (hs := kh10_2 h) (hit := kh10_14 h)
def Q9_image (σ σ1 : am_H) (r1 : Int) : Prop := (am_up (dia_copy (led_copy σ 16 29) 22 35) 0 11 1) = σ1 ∧ r1 = σ 22 7
def Q10_image (σ1 σ2 : am_H) (r2 : Int) : Prop := md_img σ1 = σ2 ∧ r2 = σ1 63 9
theorem k9_image {σ : am_H} (h : RR σ σ) : am_Mi yX9_image cX9_image 1 (some .int) 2 0 0 [vr 0] SH σ (fun r sh' σ' => SH = sh' ∧ Q9_image σ σ' r) :=
  m_X9_image (σ := σ) (hz22 := kh9_16 h) (hz35 := kh9_17 h)
theorem k10_image {σ σ1 : am_H} (h : RR σ σ1) : am_Mi yX10_image cX10_image 1 (some .int) 1 0 0 [vr 63] SH σ1 (fun r sh' σ' => SH = sh' ∧ Q10_image σ1 σ' r) :=
  m_X10_image (σ := σ1)
def Q9_back (σ σ1 : am_H) (r1 : Int) : Prop := ((σ 0 11 = 0 ∧ r1 = -5 ∧ σ = σ1) ∨ (σ 0 11 = 1 ∧ r1 = σ 35 7 ∧ (dia_copy (led_copy σ 29 16) 35 22) = σ1))
def Q10_back (σ1 σ2 : am_H) (r2 : Int) : Prop := ((σ1 63 30 = 0 ∧ r2 = -5 ∧ σ1 = σ2) ∨ (σ1 63 30 = 1 ∧ r2 = σ1 63 33 ∧ (md_bck σ1) = σ2))
theorem k9_back {σ : am_H} (h : RR σ σ) : am_Mi yX9_back cX9_back 1 (some .int) 2 0 0 [vr 0] SH σ (fun r sh' σ' => SH = sh' ∧ Q9_back σ σ' r) :=
  m_X9_back (σ := σ) (hz22 := kh9_16 h) (hz35 := kh9_17 h) (hi := kh9_18 h)
theorem k10_back {σ σ1 : am_H} (h : RR σ σ1) : am_Mi yX10_back cX10_back 1 (some .int) 1 0 0 [vr 63] SH σ1 (fun r sh' σ' => SH = sh' ∧ Q10_back σ1 σ' r) :=
  m_X10_back (σ := σ1) (hk1 := kh10_15 h)
def Q9_undo (σ σ1 : am_H) (k r1 : Int) : Prop := ((σ 4 4 = 0 ∧ r1 = -5 ∧ σ = σ1) ∨ (σ 4 4 ≠ 0 ∧ r1 = σ 4 4 - 1 ∧ (chg_back σ (σ 4 4 - 1).toNat) = σ1))
def Q10_undo (σ1 σ2 : am_H) (k r2 : Int) : Prop := ((σ1 63 5 = 0 ∧ r2 = -5 ∧ σ1 = σ2) ∨ (σ1 63 5 ≠ 0 ∧ r2 = σ1 63 5 - 1 ∧ (md_undo σ1 (σ1 63 5 - 1).toNat) = σ2))
theorem k9_undo {σ : am_H} (k : Int) (h : RR σ σ) : am_Mi yX9_undo cX9_undo 1 (some .int) 2 0 0 [vr 0] SH σ (fun r sh' σ' => SH = sh' ∧ Q9_undo σ σ' k r) :=
  m_X9_undo (σ := σ) (hD := kh9_19 h) (hcv := kh9_20 h)
theorem k10_undo {σ σ1 : am_H} (k : Int) (h : RR σ σ1) : am_Mi yX10_undo cX10_undo 1 (some .int) 0 0 0 [vr 63] SH σ1 (fun r sh' σ' => SH = sh' ∧ Q10_undo σ1 σ' k r) :=
  m_X10_undo (σ := σ1) (hcv := kh10_16 h) (hD := kh10_17 h)
def Q9_redo (σ σ1 : am_H) (k r1 : Int) : Prop := ((σ 4 5 = 0 ∧ r1 = -5 ∧ σ = σ1) ∨ (σ 4 5 ≠ 0 ∧ r1 = σ 4 5 - 1 ∧ (chg_again σ (σ 4 4).toNat) = σ1))
def Q10_redo (σ1 σ2 : am_H) (k r2 : Int) : Prop := ((σ1 63 5 = σ1 63 4 ∧ r2 = -5 ∧ σ1 = σ2) ∨ (σ1 63 5 ≠ σ1 63 4 ∧ r2 = σ1 63 4 - (σ1 63 5 + 1) ∧ (md_redo σ1 (σ1 63 5).toNat) = σ2))
theorem k9_redo {σ : am_H} (k : Int) (h : RR σ σ) : am_Mi yX9_redo cX9_redo 1 (some .int) 2 0 0 [vr 0] SH σ (fun r sh' σ' => SH = sh' ∧ Q9_redo σ σ' k r) :=
  m_X9_redo (σ := σ) (hD := kh9_19 h) (hcv := kh9_20 h)
theorem k10_redo {σ σ1 : am_H} (k : Int) (h : RR σ σ1) : am_Mi yX10_redo cX10_redo 1 (some .int) 0 0 0 [vr 63] SH σ1 (fun r sh' σ' => SH = sh' ∧ Q10_redo σ1 σ' k r) :=
  m_X10_redo (σ := σ1) (hcv := kh10_16 h) (hD := kh10_17 h)
def Q9_body (σ σ1 : am_H) (a r1 : Int) : Prop := ((¬ (0 ≤ a ∧ a ≤ 7) ∧ r1 = -1 ∧ σ = σ1) ∨ (((0 ≤ a ∧ a ≤ 7) ∧ σ 46 2 = 50) ∧ r1 = -3 ∧ σ = σ1) ∨ (((0 ≤ a ∧ a ≤ 7) ∧ σ 46 2 < 50) ∧ r1 = σ 46 2 ∧ (bd_add σ a) = σ1))
def Q10_body (σ1 σ2 : am_H) (a r2 : Int) : Prop := ((¬ (0 ≤ a ∧ a ≤ 7) ∧ r2 = -1 ∧ σ1 = σ2) ∨ (((0 ≤ a ∧ a ≤ 7) ∧ σ1 63 39 = 50) ∧ r2 = -3 ∧ σ1 = σ2) ∨ (((0 ≤ a ∧ a ≤ 7) ∧ σ1 63 39 < 50) ∧ r2 = σ1 63 39 ∧ (am_up (am_up σ1 84 (σ1 63 39).toNat a) 63 39 (σ1 63 39 + 1)) = σ2))
theorem k9_body {σ : am_H} (a : Int) (h : RR σ σ) : am_Mi yX9_body cX9_body 2 (some .int) 1 0 0 [vr 0, vi a] SH σ (fun r sh' σ' => SH = sh' ∧ Q9_body σ σ' a r) :=
  m_X9_body (a := a) (σ := σ) (hb := kh9_21 h)
theorem k10_body {σ σ1 : am_H} (a : Int) (h : RR σ σ1) : am_Mi yX10_body cX10_body 2 (some .int) 1 0 0 [vr 63, vi a] SH σ1 (fun r sh' σ' => SH = sh' ∧ Q10_body σ1 σ' a r) :=
  m_X10_body (a := a) (σ := σ1) (hb := kh10_18 h)
def Q9_act (σ σ1 : am_H) (b a x r1 : Int) : Prop := ((((0 ≤ b ∧ b < σ 46 2) ∧ 0 ≤ a ∧ a ≤ 3) ∧ bn (bd_tr (σ 47 b.toNat) a) (am_up (am_up σ 46 3 0) 46 4 b) = σ1 ∧ r1 = bd_val (σ 47 b.toNat) a x b) ∨ (¬ ((0 ≤ b ∧ b < σ 46 2) ∧ 0 ≤ a ∧ a ≤ 3) ∧ am_up σ 46 3 0 = σ1 ∧ r1 = 0))
def Q10_act (σ1 σ2 : am_H) (b a x r2 : Int) : Prop := ((((0 ≤ b ∧ b < σ1 63 39) ∧ 0 ≤ a ∧ a ≤ 3) ∧ mn (bd_tr (σ1 84 b.toNat) a) (am_up (am_up (am_up σ1 63 42 0) 63 43 (σ1 84 b.toNat)) 63 44 b) = σ2 ∧ r2 = bd_val (σ1 84 b.toNat) a x b) ∨ (¬ (0 ≤ b ∧ b < σ1 63 39) ∧ am_up σ1 63 42 0 = σ2 ∧ r2 = 0) ∨ ((0 ≤ b ∧ b < σ1 63 39) ∧ ¬ (0 ≤ a ∧ a ≤ 3) ∧ (am_up (am_up (am_up σ1 63 42 0) 63 43 (σ1 84 b.toNat)) 63 44 b) = σ2 ∧ r2 = 0))
theorem k9_act {σ : am_H} (b a x : Int) (h : RR σ σ) : am_Mi yX9_act cX9_act 4 (some .int) 32 0 0 [vr 0, vi b, vi a, vi x] SH σ (fun r sh' σ' => SH = sh' ∧ Q9_act σ σ' b a x r) :=
  m_X9_act (σ := σ) (b := b) (a := a) (x := x) (hb := kh9_21 h) (hk := kh9_22 h)
theorem k10_act {σ σ1 : am_H} (b a x : Int) (h : RR σ σ1) : am_Mi yX10_act cX10_act 4 (some .int) 7 0 0 [vr 63, vi b, vi a, vi x] SH σ1 (fun r sh' σ' => SH = sh' ∧ Q10_act σ1 σ' b a x r) :=
  m_X10_act (σ := σ1) (b := b) (a := a) (x := x) (hb := kh10_18 h) (hk := kh10_19 h)
def Q9_trace (σ σ1 : am_H) (a r1 : Int) : Prop := σ = σ1 ∧ r1 = (if 0 ≤ a ∧ a < σ 46 3 ∧ a < 24 then σ 48 a.toNat else -1)
def Q10_trace (σ1 σ2 : am_H) (a r2 : Int) : Prop := σ1 = σ2 ∧ r2 = (if 0 ≤ a ∧ a < σ1 63 42 ∧ a < 24 then σ1 85 a.toNat else -1)
theorem k9_trace {σ : am_H} (a : Int) (h : RR σ σ) : am_Mi yX9_trace cX9_trace 2 (some .int) 1 0 0 [vr 0, vi a] SH σ (fun r sh' σ' => SH = sh' ∧ Q9_trace σ σ' a r) :=
  m_X9_trace (a := a) (σ := σ) (hr := kh9_23 h)
theorem k10_trace {σ σ1 : am_H} (a : Int) (h : RR σ σ1) : am_Mi yX10_trace cX10_trace 2 (some .int) 0 0 0 [vr 63, vi a] SH σ1 (fun r sh' σ' => SH = sh' ∧ Q10_trace σ1 σ' a r) :=
  m_X10_trace (a := a) (σ := σ1) (hr := kh10_20 h)
def Q9_keep (σ σ1 : am_H) (a b r1 : Int) : Prop := ((¬ ((0 ≤ a ∧ a ≤ 5) ∧ (b = -1 ∨ (0 ≤ b ∧ b < σ 46 2))) ∧ r1 = -1 ∧ σ = σ1) ∨ (((0 ≤ a ∧ a ≤ 5) ∧ (b = -1 ∨ (0 ≤ b ∧ b < σ 46 2))) ∧ r1 = 1 ∧ (sf_day σ (51 + 2 * a.toNat) b) = σ1))
def Q10_keep (σ1 σ2 : am_H) (a b r2 : Int) : Prop := ((¬ ((0 ≤ a ∧ a ≤ 5) ∧ (b = -1 ∨ (0 ≤ b ∧ b < σ1 63 39))) ∧ r2 = -1 ∧ σ1 = σ2) ∨ (((0 ≤ a ∧ a ≤ 5) ∧ (b = -1 ∨ (0 ≤ b ∧ b < σ1 63 39))) ∧ r2 = 1 ∧ (am_up (am_up σ1 86 a.toNat b) 87 a.toNat 0) = σ2))
theorem k9_keep {σ : am_H} (a b : Int) (h : RR σ σ) : am_Mi yX9_keep cX9_keep 3 (some .int) 2 0 0 [vr 0, vi a, vi b] SH σ (fun r sh' σ' => SH = sh' ∧ Q9_keep σ σ' a b r) :=
  m_X9_keep (a := a) (b := b) (σ := σ) (hb := kh9_21 h)
theorem k10_keep {σ σ1 : am_H} (a b : Int) (h : RR σ σ1) : am_Mi yX10_keep cX10_keep 3 (some .int) 2 0 0 [vr 63, vi a, vi b] SH σ1 (fun r sh' σ' => SH = sh' ∧ Q10_keep σ1 σ' a b r) :=
  m_X10_keep (a := a) (b := b) (σ := σ1) (hb := kh10_18 h)
def Q9_row (σ σ1 : am_H) (a b c r1 : Int) : Prop := ((¬ ((0 ≤ a ∧ a ≤ 5) ∧ (0 ≤ b ∧ b ≤ 4) ∧ c ≤ 60) ∧ r1 = -1 ∧ σ = σ1) ∨ ((((0 ≤ a ∧ a ≤ 5) ∧ (0 ≤ b ∧ b ≤ 4) ∧ c ≤ 60) ∧ c < 0) ∧ r1 = -14 ∧ σ = σ1) ∨ ((((0 ≤ a ∧ a ≤ 5) ∧ (0 ≤ b ∧ b ≤ 4) ∧ c ≤ 60) ∧ 0 ≤ c) ∧ r1 = 1 ∧ (sf_row σ (51 + 2 * a.toNat) (52 + 2 * a.toNat) b c) = σ1))
def Q10_row (σ1 σ2 : am_H) (a b c r2 : Int) : Prop := ((¬ ((0 ≤ a ∧ a ≤ 5) ∧ (0 ≤ b ∧ b ≤ 4) ∧ c ≤ 60) ∧ r2 = -1 ∧ σ1 = σ2) ∨ ((((0 ≤ a ∧ a ≤ 5) ∧ (0 ≤ b ∧ b ≤ 4) ∧ c ≤ 60) ∧ c < 0) ∧ r2 = -14 ∧ σ1 = σ2) ∨ ((((0 ≤ a ∧ a ≤ 5) ∧ (0 ≤ b ∧ b ≤ 4) ∧ c ≤ 60) ∧ 0 ≤ c) ∧ r2 = 1 ∧ (md_row σ1 a.toNat b c) = σ2))
theorem k9_row {σ : am_H} (a b c : Int) (h : RR σ σ) : am_Mi yX9_row cX9_row 4 (some .int) 2 0 0 [vr 0, vi a, vi b, vi c] SH σ (fun r sh' σ' => SH = sh' ∧ Q9_row σ σ' a b c r) :=
  m_X9_row (a := a) (b := b) (c := c) (σ := σ)
theorem k10_row {σ σ1 : am_H} (a b c : Int) (h : RR σ σ1) : am_Mi yX10_row cX10_row 5 (some .int) 2 0 0 [vr 63, vi a, vi b, vi c] SH σ1 (fun r sh' σ' => SH = sh' ∧ Q10_row σ1 σ' a b c r) :=
  m_X10_row (a := a) (b := b) (c := c) (σ := σ1)
def Q9_put (σ σ1 : am_H) (a i v r1 : Int) : Prop := ((c_refusal σ a i ≠ 0 ∧ r1 = c_refusal σ a i ∧ σ = σ1) ∨ (c_refusal σ a i = 0 ∧ r1 = 1 ∧ (am_up σ (52 + 2 * a.toNat) i.toNat (sf_as (σ (51 + 2 * a.toNat) 2) v)) = σ1))
def Q10_put (σ1 σ2 : am_H) (a i v r2 : Int) : Prop := ((md_refusal σ1 a i ≠ 0 ∧ r2 = md_refusal σ1 a i ∧ σ1 = σ2) ∨ (md_refusal σ1 a i = 0 ∧ r2 = 1 ∧ (am_up σ1 88 (60 * a + i).toNat (sf_as (σ1 86 a.toNat - 50) v)) = σ2))
theorem k9_put {σ : am_H} (a i v : Int) (h : RR σ σ) : am_Mi yX9_put cX9_put 6 (some .int) 3 0 0 [vr 0, vi a, vi i, vl v] SH σ (fun r sh' σ' => SH = sh' ∧ Q9_put σ σ' a i v r) :=
  m_X9_put (a := a) (i := i) (v := v) (σ := σ) (hs := kh9_2 h)
theorem k10_put {σ σ1 : am_H} (a i v : Int) (h : RR σ σ1) : am_Mi yX10_put cX10_put 6 (some .int) 3 0 0 [vr 63, vi a, vi i, vl v] SH σ1 (fun r sh' σ' => SH = sh' ∧ Q10_put σ1 σ' a i v r) :=
  m_X10_put (a := a) (i := i) (v := v) (σ := σ1) (hs := kh10_2 h)
def Q9_element (σ σ1 : am_H) (a i r1 : Int) : Prop := σ = σ1 ∧ r1 = (if c_refusal σ a i ≠ 0 then -9223372036854775808 else σ (52 + 2 * a.toNat) i.toNat)
def Q10_element (σ1 σ2 : am_H) (a i r2 : Int) : Prop := σ1 = σ2 ∧ r2 = (if md_refusal σ1 a i ≠ 0 then -9223372036854775808 else σ1 88 (60 * a + i).toNat)
theorem k9_element {σ : am_H} (a i : Int) (h : RR σ σ) : am_Ml yX9_element cX9_element 3 (some .long) 3 0 0 [vr 0, vi a, vi i] SH σ (fun r sh' σ' => SH = sh' ∧ Q9_element σ σ' a i r) :=
  m_X9_element (a := a) (i := i) (σ := σ) (hs := kh9_2 h)
theorem k10_element {σ σ1 : am_H} (a i : Int) (h : RR σ σ1) : am_Ml yX10_element cX10_element 3 (some .long) 3 0 0 [vr 63, vi a, vi i] SH σ1 (fun r sh' σ' => SH = sh' ∧ Q10_element σ1 σ' a i r) :=
  m_X10_element (a := a) (i := i) (σ := σ1) (hs := kh10_2 h)
def Q9_shift (σ σ1 : am_H) (a i b j n r1 : Int) : Prop := ((¬ ((0 ≤ a ∧ a ≤ 5) ∧ 0 ≤ b ∧ b ≤ 5) ∧ r1 = -1 ∧ σ = σ1) ∨ ((((0 ≤ a ∧ a ≤ 5) ∧ 0 ≤ b ∧ b ≤ 5) ∧ ((σ (51 + 2 * a.toNat) 1 < 0 ∧ σ (51 + 2 * a.toNat) 2 < 0) ∨ (σ (51 + 2 * b.toNat) 1 < 0 ∧ σ (51 + 2 * b.toNat) 2 < 0))) ∧ r1 = -11 ∧ σ = σ1) ∨ ((((0 ≤ a ∧ a ≤ 5) ∧ 0 ≤ b ∧ b ≤ 5) ∧ ¬ ((σ (51 + 2 * a.toNat) 1 < 0 ∧ σ (51 + 2 * a.toNat) 2 < 0) ∨ (σ (51 + 2 * b.toNat) 1 < 0 ∧ σ (51 + 2 * b.toNat) 2 < 0)) ∧ ¬ (0 ≤ σ (51 + 2 * a.toNat) 2 ∧ σ (51 + 2 * a.toNat) 2 = σ (51 + 2 * b.toNat) 2)) ∧ r1 = -12 ∧ σ = σ1) ∨ ((((0 ≤ a ∧ a ≤ 5) ∧ 0 ≤ b ∧ b ≤ 5) ∧ ¬ ((σ (51 + 2 * a.toNat) 1 < 0 ∧ σ (51 + 2 * a.toNat) 2 < 0) ∨ (σ (51 + 2 * b.toNat) 1 < 0 ∧ σ (51 + 2 * b.toNat) 2 < 0)) ∧ (0 ≤ σ (51 + 2 * a.toNat) 2 ∧ σ (51 + 2 * a.toNat) 2 = σ (51 + 2 * b.toNat) 2) ∧ ¬ ((0 ≤ n ∧ n ≤ σ (51 + 2 * a.toNat) 3 ∧ 0 ≤ i ∧ i ≤ σ (51 + 2 * a.toNat) 3 - n) ∧ (0 ≤ n ∧ n ≤ σ (51 + 2 * b.toNat) 3 ∧ 0 ≤ j ∧ j ≤ σ (51 + 2 * b.toNat) 3 - n))) ∧ r1 = -13 ∧ σ = σ1) ∨ ((((0 ≤ a ∧ a ≤ 5) ∧ 0 ≤ b ∧ b ≤ 5) ∧ ¬ ((σ (51 + 2 * a.toNat) 1 < 0 ∧ σ (51 + 2 * a.toNat) 2 < 0) ∨ (σ (51 + 2 * b.toNat) 1 < 0 ∧ σ (51 + 2 * b.toNat) 2 < 0)) ∧ (0 ≤ σ (51 + 2 * a.toNat) 2 ∧ σ (51 + 2 * a.toNat) 2 = σ (51 + 2 * b.toNat) 2) ∧ ((0 ≤ n ∧ n ≤ σ (51 + 2 * a.toNat) 3 ∧ 0 ≤ i ∧ i ≤ σ (51 + 2 * a.toNat) 3 - n) ∧ (0 ≤ n ∧ n ≤ σ (51 + 2 * b.toNat) 3 ∧ 0 ≤ j ∧ j ≤ σ (51 + 2 * b.toNat) 3 - n))) ∧ r1 = n ∧ (am_cp σ (52 + 2 * a.toNat) (52 + 2 * b.toNat) i.toNat j.toNat n.toNat) = σ1))
def Q10_shift (σ1 σ2 : am_H) (a i b j n r2 : Int) : Prop := ((¬ ((0 ≤ a ∧ a ≤ 5) ∧ 0 ≤ b ∧ b ≤ 5) ∧ r2 = -1 ∧ σ1 = σ2) ∨ ((((0 ≤ a ∧ a ≤ 5) ∧ 0 ≤ b ∧ b ≤ 5) ∧ (σ1 86 a.toNat < 0 ∨ σ1 86 b.toNat < 0)) ∧ r2 = -11 ∧ σ1 = σ2) ∨ ((((0 ≤ a ∧ a ≤ 5) ∧ 0 ≤ b ∧ b ≤ 5) ∧ ¬ (σ1 86 a.toNat < 0 ∨ σ1 86 b.toNat < 0) ∧ ¬ (50 ≤ σ1 86 a.toNat ∧ σ1 86 a.toNat = σ1 86 b.toNat)) ∧ r2 = -12 ∧ σ1 = σ2) ∨ ((((0 ≤ a ∧ a ≤ 5) ∧ 0 ≤ b ∧ b ≤ 5) ∧ ¬ (σ1 86 a.toNat < 0 ∨ σ1 86 b.toNat < 0) ∧ (50 ≤ σ1 86 a.toNat ∧ σ1 86 a.toNat = σ1 86 b.toNat) ∧ ¬ (0 ≤ n ∧ 0 ≤ i ∧ 0 ≤ j ∧ i ≤ σ1 87 a.toNat - n ∧ j ≤ σ1 87 b.toNat - n)) ∧ r2 = -13 ∧ σ1 = σ2) ∨ ((((0 ≤ a ∧ a ≤ 5) ∧ 0 ≤ b ∧ b ≤ 5) ∧ ¬ (σ1 86 a.toNat < 0 ∨ σ1 86 b.toNat < 0) ∧ (50 ≤ σ1 86 a.toNat ∧ σ1 86 a.toNat = σ1 86 b.toNat) ∧ (0 ≤ n ∧ 0 ≤ i ∧ 0 ≤ j ∧ i ≤ σ1 87 a.toNat - n ∧ j ≤ σ1 87 b.toNat - n)) ∧ r2 = n ∧ (md_c2 (md_c1 σ1 (60 * a + i).toNat n.toNat) (60 * b + j).toNat n.toNat) = σ2))
theorem k9_shift {σ : am_H} (a i b j n : Int) (h : RR σ σ) : am_Mi yX9_shift cX9_shift 8 (some .int) 2 0 0 [vr 0, vi a, vi i, vi b, vi j, vi n] SH σ (fun r sh' σ' => SH = sh' ∧ Q9_shift σ σ' a i b j n r) :=
  m_X9_shift (a := a) (i := i) (b := b) (j := j) (n := n) (σ := σ) (hs := kh9_2 h)
theorem k10_shift {σ σ1 : am_H} (a i b j n : Int) (h : RR σ σ1) : am_Mi yX10_shift cX10_shift 7 (some .int) 2 0 0 [vr 63, vi a, vi i, vi b, vi j, vi n] SH σ1 (fun r sh' σ' => SH = sh' ∧ Q10_shift σ1 σ' a i b j n r) :=
  m_X10_shift (a := a) (i := i) (b := b) (j := j) (n := n) (σ := σ1) (hs := kh10_2 h)
def Q9_taken (σ σ1 : am_H) (a b r1 : Int) : Prop := ((¬ ((0 ≤ a ∧ a ≤ 5) ∧ 0 ≤ b ∧ b ≤ 7) ∧ r1 = -1 ∧ σ = σ1) ∨ ((((0 ≤ a ∧ a ≤ 5) ∧ 0 ≤ b ∧ b ≤ 7) ∧ (σ (51 + 2 * a.toNat) 1 < 0 ∧ σ (51 + 2 * a.toNat) 2 < 0)) ∧ r1 = -11 ∧ σ = σ1) ∨ ((((0 ≤ a ∧ a ≤ 5) ∧ 0 ≤ b ∧ b ≤ 7) ∧ ¬ (σ (51 + 2 * a.toNat) 1 < 0 ∧ σ (51 + 2 * a.toNat) 2 < 0) ∧ ¬ (0 ≤ σ (51 + 2 * a.toNat) 1 ∧ ((σ 47 (σ (51 + 2 * a.toNat) 1).toNat = 0 ∧ (b = 0)) ∨ (σ 47 (σ (51 + 2 * a.toNat) 1).toNat = 1 ∧ (b = 1 ∨ b = 0)) ∨ (σ 47 (σ (51 + 2 * a.toNat) 1).toNat = 2 ∧ (b = 2 ∨ b = 0)) ∨ (σ 47 (σ (51 + 2 * a.toNat) 1).toNat = 3 ∧ (b = 3 ∨ b = 2 ∨ b = 0)) ∨ (σ 47 (σ (51 + 2 * a.toNat) 1).toNat = 4 ∧ (b = 4 ∨ b = 1 ∨ b = 0)) ∨ (σ 47 (σ (51 + 2 * a.toNat) 1).toNat = 5 ∧ (b = 5 ∨ b = 3 ∨ b = 2 ∨ b = 0)) ∨ (σ 47 (σ (51 + 2 * a.toNat) 1).toNat = 6 ∧ (b = 6 ∨ b = 0)) ∨ (σ 47 (σ (51 + 2 * a.toNat) 1).toNat = 7 ∧ (b = 7 ∨ b = 4 ∨ b = 1 ∨ b = 0))))) ∧ r1 = -12 ∧ σ = σ1) ∨ ((((0 ≤ a ∧ a ≤ 5) ∧ 0 ≤ b ∧ b ≤ 7) ∧ ¬ (σ (51 + 2 * a.toNat) 1 < 0 ∧ σ (51 + 2 * a.toNat) 2 < 0) ∧ (0 ≤ σ (51 + 2 * a.toNat) 1 ∧ ((σ 47 (σ (51 + 2 * a.toNat) 1).toNat = 0 ∧ (b = 0)) ∨ (σ 47 (σ (51 + 2 * a.toNat) 1).toNat = 1 ∧ (b = 1 ∨ b = 0)) ∨ (σ 47 (σ (51 + 2 * a.toNat) 1).toNat = 2 ∧ (b = 2 ∨ b = 0)) ∨ (σ 47 (σ (51 + 2 * a.toNat) 1).toNat = 3 ∧ (b = 3 ∨ b = 2 ∨ b = 0)) ∨ (σ 47 (σ (51 + 2 * a.toNat) 1).toNat = 4 ∧ (b = 4 ∨ b = 1 ∨ b = 0)) ∨ (σ 47 (σ (51 + 2 * a.toNat) 1).toNat = 5 ∧ (b = 5 ∨ b = 3 ∨ b = 2 ∨ b = 0)) ∨ (σ 47 (σ (51 + 2 * a.toNat) 1).toNat = 6 ∧ (b = 6 ∨ b = 0)) ∨ (σ 47 (σ (51 + 2 * a.toNat) 1).toNat = 7 ∧ (b = 7 ∨ b = 4 ∨ b = 1 ∨ b = 0))))) ∧ r1 = σ 47 (σ (51 + 2 * a.toNat) 1).toNat ∧ σ = σ1))
def Q10_taken (σ1 σ2 : am_H) (a b r2 : Int) : Prop := ((¬ ((0 ≤ a ∧ a ≤ 5) ∧ 0 ≤ b ∧ b ≤ 7) ∧ r2 = -1 ∧ σ1 = σ2) ∨ ((((0 ≤ a ∧ a ≤ 5) ∧ 0 ≤ b ∧ b ≤ 7) ∧ σ1 86 a.toNat < 0) ∧ r2 = -11 ∧ σ1 = σ2) ∨ ((((0 ≤ a ∧ a ≤ 5) ∧ 0 ≤ b ∧ b ≤ 7) ∧ 50 ≤ σ1 86 a.toNat) ∧ r2 = -12 ∧ σ1 = σ2) ∨ ((((0 ≤ a ∧ a ≤ 5) ∧ 0 ≤ b ∧ b ≤ 7) ∧ 0 ≤ σ1 86 a.toNat ∧ σ1 86 a.toNat < 50) ∧ bd_un (σ1 84 (σ1 86 a.toNat).toNat) b ∧ r2 = (σ1 84 (σ1 86 a.toNat).toNat) ∧ σ1 = σ2) ∨ ((((0 ≤ a ∧ a ≤ 5) ∧ 0 ≤ b ∧ b ≤ 7) ∧ 0 ≤ σ1 86 a.toNat ∧ σ1 86 a.toNat < 50) ∧ ¬ bd_un (σ1 84 (σ1 86 a.toNat).toNat) b ∧ r2 = -12 ∧ σ1 = σ2))
theorem k9_taken {σ : am_H} (a b : Int) (h : RR σ σ) : am_Mi yX9_taken cX9_taken 4 (some .int) 2 0 0 [vr 0, vi a, vi b] SH σ (fun r sh' σ' => SH = sh' ∧ Q9_taken σ σ' a b r) :=
  m_X9_taken (a := a) (b := b) (σ := σ) (hs := kh9_2 h) (hb := kh9_21 h) (hk := kh9_22 h)
theorem k10_taken {σ σ1 : am_H} (a b : Int) (h : RR σ σ1) : am_Mi yX10_taken cX10_taken 4 (some .int) 2 0 0 [vr 63, vi a, vi b] SH σ1 (fun r sh' σ' => SH = sh' ∧ Q10_taken σ1 σ' a b r) :=
  m_X10_taken (a := a) (b := b) (σ := σ1) (hs := kh10_2 h) (hk := kh10_19 h) (hb := kh10_18 h) (hsb := kh10_21 h)
def Q9_count (σ σ1 : am_H) (a r1 : Int) : Prop := σ = σ1 ∧ r1 = (if a = 0 then σ 1 2 else if a = 1 then σ 16 5 else if a = 2 then am_sum (fun n : Nat => if 0 < σ 19 n then 1 else 0) (σ 16 5).toNat else if a = 3 then σ 22 6 else if a = 4 then σ 22 7 else if a = 5 then σ 9 6 else if a = 6 then σ 4 4 else if a = 7 then σ 46 2 else if a = 8 then σ 46 3 else -1)
def Q10_count (σ1 σ2 : am_H) (a r2 : Int) : Prop := σ1 = σ2 ∧ r2 = (if a = 0 then σ1 63 6 else if a = 1 then σ1 63 7 else if a = 2 then am_sum (fun n : Nat => if 0 < σ1 68 (5 * n + 2) then 1 else 0) (σ1 63 7).toNat else if a = 3 then σ1 63 20 else if a = 4 then σ1 63 9 else if a = 5 then σ1 63 11 else if a = 6 then σ1 63 5 else if a = 7 then σ1 63 39 else if a = 8 then σ1 63 42 else -1)
theorem k9_count {σ : am_H} (a : Int) (h : RR σ σ) : am_Mi yX9_count cX9_count 2 (some .int) 1 0 0 [vr 0, vi a] SH σ (fun r sh' σ' => SH = sh' ∧ Q9_count σ σ' a r) :=
  m_X9_count (a := a) (σ := σ) (hc := kh9_1 h)
theorem k10_count {σ σ1 : am_H} (a : Int) (h : RR σ σ1) : am_Mi yX10_count cX10_count 2 (some .int) 2 0 0 [vr 63, vi a] SH σ1 (fun r sh' σ' => SH = sh' ∧ Q10_count σ1 σ' a r) :=
  m_X10_count (a := a) (σ := σ1) (hc := kh10_1 h)
