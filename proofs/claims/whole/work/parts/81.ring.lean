/-! rings: ways from debt to debt -/
theorem rg_ofNat (a : Nat) (ha : a < 2147483648) : (Int32.ofInt (a : Int)).toBitVec.toNat = a := by
  show (BitVec.ofInt 32 (a : Int)).toNat = a
  rw [BitVec.ofInt_natCast, BitVec.toNat_ofNat]
  exact Nat.mod_eq_of_lt (by omega)
theorem rg_toInt (x : Int32) (n : Nat) (h : x.toBitVec.toNat = n) (hn : n < 2147483648) : x.toInt = (n : Int) := by
  show x.toBitVec.toInt = _
  rw [BitVec.toInt_eq_toNat_of_lt (by omega), h]
theorem rg_or (a b : Nat) (ha : a < 2147483648) (hb : b < 2147483648) : am_or (a : Int) (b : Int) = ((a ||| b : Nat) : Int) := by
  have hlt : a ||| b < 2147483648 := Nat.or_lt_two_pow (n := 31) ha hb
  refine rg_toInt _ _ ?_ hlt
  rw [Int32.toBitVec_or, BitVec.toNat_or, rg_ofNat a ha, rg_ofNat b hb]
theorem rg_and (a b : Nat) (ha : a < 2147483648) (hb : b < 2147483648) : am_and (a : Int) (b : Int) = ((a &&& b : Nat) : Int) := by
  have hlt : a &&& b < 2147483648 := Nat.lt_of_le_of_lt Nat.and_le_left ha
  refine rg_toInt _ _ ?_ hlt
  rw [Int32.toBitVec_and, BitVec.toNat_and, rg_ofNat a ha, rg_ofNat b hb]
theorem rg_shl : ∀ k : Fin 20, am_shl 1 (k.val : Int) = ((2 ^ k.val : Nat) : Int) ∧ 2 ^ k.val < 1048576 := by decide +kernel
theorem rg_bit : ∀ (v : Fin 256) (p : Fin 8), am_and (am_shr (v.val : Int) (p.val : Int)) 1 = if v.val.testBit p.val then 1 else 0 := by decide +kernel
theorem rg_vis : ∀ (v : Fin 256) (p : Fin 8), v.val ||| 2 ^ p.val < 256 := by decide +kernel
def rg_pc : Nat → Nat → Nat
  | 0, _ => 0
  | m + 1, x => x % 2 + rg_pc m (x / 2)
theorem rg_pc_0 : ∀ m : Nat, rg_pc m 0 = 0
  | 0 => rfl
  | m + 1 => by show 0 % 2 + rg_pc m (0 / 2) = 0; rw [Nat.zero_div, rg_pc_0 m]
theorem rg_pc_low : ∀ (m x : Nat), 0 < x → x < 2 ^ m → rg_pc m (x &&& (x - 1)) + 1 = rg_pc m x
  | 0, x, h, h2 => by rw [Nat.pow_zero] at h2; omega
  | m + 1, x, h, h2 => by
    rw [Nat.pow_succ] at h2
    show (x &&& (x - 1)) % 2 + rg_pc m ((x &&& (x - 1)) / 2) + 1 = x % 2 + rg_pc m (x / 2)
    rw [Nat.and_div_two]
    have hm : (x &&& (x - 1)) % 2 = 0 := by
      rcases Nat.mod_two_eq_zero_or_one (x &&& (x - 1)) with q | q
      · exact q
      · have := Nat.and_mod_two_eq_one.mp q; omega
    rw [hm]
    by_cases e : x % 2 = 1
    · rw [show (x - 1) / 2 = x / 2 by omega, Nat.and_self, e]; omega
    · have ih := rg_pc_low m (x / 2) (by omega) (by omega)
      rw [show (x - 1) / 2 = x / 2 - 1 by omega]; omega
theorem rg_pc_or : ∀ (m x k : Nat), k < m → x.testBit k = false → rg_pc m (x ||| 2 ^ k) = rg_pc m x + 1
  | 0, x, k, h, _ => absurd h (Nat.not_lt_zero _)
  | m + 1, x, 0, _, hb => by
    rw [Nat.testBit_zero] at hb
    have hb : x % 2 = 0 := by have := of_decide_eq_false hb; omega
    show (x ||| 2 ^ 0) % 2 + rg_pc m ((x ||| 2 ^ 0) / 2) = x % 2 + rg_pc m (x / 2) + 1
    rw [Nat.or_div_two, show 2 ^ 0 / 2 = 0 from rfl, Nat.or_zero, show (x ||| 2 ^ 0) % 2 = 1 from Nat.or_mod_two_eq_one.mpr (Or.inr rfl), hb]; omega
  | m + 1, x, k + 1, h, hb => by
    rw [Nat.testBit_succ] at hb
    show (x ||| 2 ^ (k + 1)) % 2 + rg_pc m ((x ||| 2 ^ (k + 1)) / 2) = x % 2 + rg_pc m (x / 2) + 1
    have hp : 2 ^ (k + 1) / 2 = 2 ^ k := by rw [Nat.pow_succ]; omega
    have hp2 : 2 ^ (k + 1) % 2 = 0 := by rw [Nat.pow_succ]; omega
    have hm : (x ||| 2 ^ (k + 1)) % 2 = x % 2 := by
      rcases Nat.mod_two_eq_zero_or_one (x ||| 2 ^ (k + 1)) with q | q
      · rcases Nat.mod_two_eq_zero_or_one x with q2 | q2
        · omega
        · have := Nat.or_mod_two_eq_one.mpr (Or.inl q2 : x % 2 = 1 ∨ 2 ^ (k + 1) % 2 = 1); omega
      · rcases Nat.or_mod_two_eq_one.mp q with q2 | q2 <;> omega
    rw [Nat.or_div_two, hp, rg_pc_or m (x / 2) k (by omega) hb, hm]; omega
def rg_V : Nat → List Nat → Nat
  | s, [] => s
  | s, k :: es => rg_V (s ||| 2 ^ k) es
theorem rg_V_bit (i : Nat) : ∀ (es : List Nat) (s : Nat), (rg_V s es).testBit i = true ↔ s.testBit i = true ∨ i ∈ es
  | [], s => by show s.testBit i = true ↔ _; simp
  | k :: es, s => by
    show (rg_V (s ||| 2 ^ k) es).testBit i = true ↔ _
    rw [rg_V_bit i es, Nat.testBit_or, Nat.testBit_two_pow, Bool.or_eq_true, decide_eq_true_iff, List.mem_cons]
    constructor
    · rintro ((h | h) | h)
      · exact Or.inl h
      · exact Or.inr (Or.inl h.symm)
      · exact Or.inr (Or.inr h)
    · rintro (h | h | h)
      · exact Or.inl (Or.inl h)
      · exact Or.inl (Or.inr h.symm)
      · exact Or.inr h
theorem rg_V_lt : ∀ (es : List Nat) (s : Nat), s < 1048576 → (∀ k, k ∈ es → k < 20) → rg_V s es < 1048576
  | [], _, h, _ => h
  | k :: es, s, h, hk => rg_V_lt es _ (Nat.or_lt_two_pow (n := 20) h (rg_shl ⟨k, hk k (by simp)⟩).2) (fun j hj => hk j (by simp [hj]))
theorem rg_V_ge : ∀ (es : List Nat) (s : Nat), s ≤ rg_V s es
  | [], _ => Nat.le_refl _
  | k :: es, s => Nat.le_trans Nat.left_le_or (rg_V_ge es _)
def rg_V0 : List Nat → Nat
  | [] => 0
  | k :: es => rg_V (2 ^ k) es
theorem rg_V0_bit (i : Nat) (l : List Nat) : (rg_V0 l).testBit i = true ↔ i ∈ l := by
  cases l with
  | nil => simp [rg_V0]
  | cons k es =>
    show (rg_V (2 ^ k) es).testBit i = true ↔ _
    rw [rg_V_bit, Nat.testBit_two_pow, decide_eq_true_iff, List.mem_cons]
    exact ⟨fun h => h.elim (fun h => Or.inl h.symm) Or.inr, fun h => h.elim (fun h => Or.inl h.symm) Or.inr⟩
theorem rg_V0_perm {l l' : List Nat} (h : ∀ i, i ∈ l ↔ i ∈ l') : rg_V0 l = rg_V0 l' := by
  apply Nat.eq_of_testBit_eq
  intro i
  have h1 := rg_V0_bit i l
  have h2 := rg_V0_bit i l'
  rw [h i, ← h2] at h1
  exact Bool.eq_iff_iff.mpr h1
section RG
variable (o w : Nat → Nat) (kd : Nat → Int) (op : Nat → Prop) (n lo : Nat)
def rg_ok (first k : Nat) : Prop := k < n ∧ lo ≤ k ∧ op k ∧ kd k = kd first
def rg_wy (first : Nat) : Nat → Nat → List Nat → Prop
  | last, _, [] => w last = o first
  | last, v, k :: es => v.testBit (w last) = false ∧ rg_ok kd op n lo first k ∧ o k = w last ∧ rg_wy first k (v ||| 2 ^ w last) es
def rg_ch : Nat → List Nat → Nat → Prop
  | x, [], z => w x = o z
  | x, y :: ys, z => w x = o y ∧ rg_ch y ys z
/-- a ring as a round list -/
def rg_F (l : List Nat) : Prop := (∃ c, ∀ k, k ∈ l → k < n ∧ op k ∧ kd k = c) ∧ (match l with | [] => False | a :: es => rg_ch o w a es a) ∧ (l.map o).Nodup
end RG
theorem rg_ch_app {o w : Nat → Nat} (a z : Nat) : ∀ (es : List Nat) (b : Nat), rg_ch o w b (es ++ [a]) z ↔ rg_ch o w b es a ∧ w a = o z
  | [], _ => Iff.rfl
  | y :: es, b => by
    show (w b = o y ∧ rg_ch o w y (es ++ [a]) z) ↔ (w b = o y ∧ rg_ch o w y es a) ∧ w a = o z
    rw [rg_ch_app a z es y, and_assoc]
theorem rg_wy_iff {o w : Nat → Nat} {kd : Nat → Int} {op : Nat → Prop} {n lo first : Nat} : ∀ (es : List Nat) (last v : Nat), rg_wy o w kd op n lo first last v es ↔ (∀ k, k ∈ es → rg_ok kd op n lo first k ∧ v.testBit (o k) = false) ∧ rg_ch o w last es first ∧ (es.map o).Nodup
  | [], last, v => by
    show w last = o first ↔ _
    exact ⟨fun h => ⟨fun k hk => absurd hk (by simp), h, by simp⟩, fun h => h.2.1⟩
  | k :: es, last, v => by
    show (v.testBit (w last) = false ∧ rg_ok kd op n lo first k ∧ o k = w last ∧ rg_wy o w kd op n lo first k (v ||| 2 ^ w last) es) ↔ _ ∧ (w last = o k ∧ rg_ch o w k es first) ∧ (o k :: es.map o).Nodup
    rw [rg_wy_iff es k, List.nodup_cons]
    constructor
    · rintro ⟨h1, h2, h3, h4, h5, h6⟩
      have hv : ∀ j, j ∈ es → v.testBit (o j) = false ∧ o k ≠ o j := fun j hj => by
        have := (h4 j hj).2
        rw [Nat.testBit_or, Nat.testBit_two_pow, Bool.or_eq_false_iff, decide_eq_false_iff_not] at this
        exact ⟨this.1, fun q => this.2 (h3 ▸ q)⟩
      refine ⟨fun j hj => ?_, ⟨h3.symm, h5⟩, fun hm => ?_, h6⟩
      · rcases List.mem_cons.mp hj with rfl | hj
        · exact ⟨h2, by rw [h3]; exact h1⟩
        · exact ⟨(h4 j hj).1, (hv j hj).1⟩
      · obtain ⟨j, hj, e⟩ := List.mem_map.mp hm
        exact (hv j hj).2 e.symm
    · rintro ⟨h1, ⟨h2, h3⟩, h4, h5⟩
      have hk := h1 k (by simp)
      refine ⟨by rw [h2]; exact hk.2, hk.1, h2.symm, fun j hj => ⟨(h1 j (by simp [hj])).1, ?_⟩, h3, h5⟩
      rw [Nat.testBit_or, Nat.testBit_two_pow, Bool.or_eq_false_iff, decide_eq_false_iff_not]
      exact ⟨(h1 j (by simp [hj])).2, fun q => h4 (List.mem_map.mpr ⟨j, hj, by rw [← q, h2]⟩)⟩
theorem rg_F_step {o w : Nat → Nat} {kd : Nat → Int} {op : Nat → Prop} {n : Nat} {a b : Nat} {es : List Nat} (h : rg_F o w kd op n (a :: b :: es)) : rg_F o w kd op n (b :: es ++ [a]) := by
  obtain ⟨⟨c, h1⟩, ⟨h2, h3⟩, h4⟩ := h
  refine ⟨⟨c, fun k hk => h1 k (by simp only [List.mem_append, List.mem_cons, List.cons_append, List.not_mem_nil, or_false] at hk ⊢; rcases hk with q | q | q; exact Or.inr (Or.inl q); exact Or.inr (Or.inr q); exact Or.inl q)⟩, ?_, ?_⟩
  · show rg_ch o w b (es ++ [a]) b
    exact (rg_ch_app a b es b).mpr ⟨h3, h2⟩
  · exact ((List.perm_append_singleton a (b :: es)).symm.map o).nodup h4
theorem rg_F_rot {o w : Nat → Nat} {kd : Nat → Int} {op : Nat → Prop} {n : Nat} {m : Nat} : ∀ (pre post : List Nat), rg_F o w kd op n (pre ++ m :: post) → rg_F o w kd op n (m :: (post ++ pre))
  | [], post, h => by rw [List.append_nil]; exact h
  | x :: pre, post, h => by
    have h2 : rg_F o w kd op n (pre ++ m :: (post ++ [x])) := by
      cases pre with
      | nil => exact rg_F_step h
      | cons y pre =>
        have this : rg_F o w kd op n (y :: (pre ++ m :: post) ++ [x]) := rg_F_step h
        rw [show y :: (pre ++ m :: post) ++ [x] = (y :: pre) ++ m :: (post ++ [x]) by simp] at this
        exact this
    have := rg_F_rot pre (post ++ [x]) h2
    rw [show post ++ [x] ++ pre = post ++ x :: pre by simp] at this
    exact this
theorem rg_least : ∀ (l : List Nat), l ≠ [] → ∃ m, m ∈ l ∧ ∀ k, k ∈ l → m ≤ k
  | [], h => absurd rfl h
  | [a], _ => ⟨a, by simp, fun k hk => by simp at hk; omega⟩
  | a :: b :: l, _ => by
    obtain ⟨m, hm, h⟩ := rg_least (b :: l) (by simp)
    by_cases e : a ≤ m
    · exact ⟨a, by simp, fun k hk => by rcases List.mem_cons.mp hk with q | q; omega; exact Nat.le_trans e (h k q)⟩
    · exact ⟨m, by simp [hm], fun k hk => by rcases List.mem_cons.mp hk with q | q; omega; exact h k q⟩
/-- a ring with the first debt known -/
def rg_R (o w : Nat → Nat) (kd : Nat → Int) (op : Nat → Prop) (n : Nat) (low : Bool) : List Nat → Prop
  | [] => False
  | a :: es => (a < n ∧ op a) ∧ rg_wy o w kd op n (if low then a + 1 else 0) a a (2 ^ o a) es
theorem rg_F_R {o w : Nat → Nat} {kd : Nat → Int} {op : Nat → Prop} {n : Nat} {l : List Nat} : rg_F o w kd op n l ↔ rg_R o w kd op n false l := by
  cases l with
  | nil => exact ⟨fun h => h.2.1, fun h => h.elim⟩
  | cons a es =>
    show _ ↔ (a < n ∧ op a) ∧ rg_wy o w kd op n 0 a a (2 ^ o a) es
    rw [rg_wy_iff]
    constructor
    · rintro ⟨⟨c, h1⟩, h2, h3⟩
      have h3 : (o a :: es.map o).Nodup := h3
      rw [List.nodup_cons] at h3
      have ha := h1 a (by simp)
      refine ⟨⟨ha.1, ha.2.1⟩, fun k hk => ?_, h2, h3.2⟩
      have hk' := h1 k (by simp [hk])
      refine ⟨⟨hk'.1, Nat.zero_le _, hk'.2.1, hk'.2.2.trans ha.2.2.symm⟩, ?_⟩
      rw [Nat.testBit_two_pow, decide_eq_false_iff_not]
      exact fun q => h3.1 (List.mem_map.mpr ⟨k, hk, q.symm⟩)
    · rintro ⟨h1, h2, h3, h4⟩
      refine ⟨⟨kd a, fun k hk => ?_⟩, h3, ?_⟩
      · rcases List.mem_cons.mp hk with rfl | hk
        · exact ⟨h1.1, h1.2, rfl⟩
        · have := (h2 k hk).1; exact ⟨this.1, this.2.2.1, this.2.2.2⟩
      · show (o a :: es.map o).Nodup
        refine List.nodup_cons.mpr ⟨fun hm => ?_, h4⟩
        obtain ⟨j, hj, e⟩ := List.mem_map.mp hm
        have := (h2 j hj).2
        rw [Nat.testBit_two_pow, decide_eq_false_iff_not] at this
        exact this e.symm
theorem rg_R_low {o w : Nat → Nat} {kd : Nat → Int} {op : Nat → Prop} {n : Nat} {l : List Nat} (h : rg_R o w kd op n true l) : rg_R o w kd op n false l := by
  cases l with
  | nil => exact h
  | cons a es =>
    obtain ⟨h0, h⟩ := h
    refine ⟨h0, ?_⟩
    rw [rg_wy_iff] at h ⊢
    exact ⟨fun k hk => have q := h.1 k hk; ⟨⟨q.1.1, Nat.zero_le _, q.1.2.2⟩, q.2⟩, h.2⟩
/-- every ring has a turn that begins at its lowest debt -/
theorem rg_turn {o w : Nat → Nat} {kd : Nat → Int} {op : Nat → Prop} {n : Nat} {l : List Nat} (h : rg_R o w kd op n false l) : ∃ l', rg_R o w kd op n true l' ∧ l'.length = l.length ∧ rg_V0 l' = rg_V0 l := by
  have hF := rg_F_R.mpr h
  have hne : l ≠ [] := fun e => by rw [e] at h; exact h
  obtain ⟨m, hm, hmin⟩ := rg_least l hne
  obtain ⟨pre, post, rfl⟩ := List.append_of_mem hm
  have hR := rg_F_rot pre post hF
  have hmem : ∀ i, i ∈ m :: (post ++ pre) ↔ i ∈ pre ++ m :: post := fun i => by
    simp only [List.mem_append, List.mem_cons]
    constructor
    · rintro (h | h | h); exact Or.inr (Or.inl h); exact Or.inr (Or.inr h); exact Or.inl h
    · rintro (h | h | h); exact Or.inr (Or.inr h); exact Or.inl h; exact Or.inr (Or.inl h)
  refine ⟨m :: (post ++ pre), ?_, by simp; omega, rg_V0_perm hmem⟩
  have h1 := rg_F_R.mp hR
  have hnd : (o m :: (post ++ pre).map o).Nodup := hR.2.2
  rw [List.nodup_cons] at hnd
  refine ⟨h1.1, ?_⟩
  have h2 := h1.2
  rw [rg_wy_iff] at h2 ⊢
  refine ⟨fun k hk => ?_, h2.2⟩
  have q := h2.1 k hk
  have hle := hmin k ((hmem k).mp (by simp only [List.mem_cons]; exact Or.inr hk))
  have hne2 : m ≠ k := fun e => hnd.1 (e ▸ List.mem_map.mpr ⟨k, hk, rfl⟩)
  exact ⟨⟨q.1.1, (by show m + 1 ≤ k; omega), q.1.2.2⟩, q.2⟩
def rg_mp (r : Nat) (Q : List Nat → Prop) (V : List Nat → Nat) : Prop := (r = 0 ∧ ∀ es, ¬ Q es) ∨ (∃ es, Q es ∧ r = V es ∧ ∀ es', Q es' → V es ≤ V es')
def rg_ls (a b : Nat) : Nat := if a = 0 then b else if b = 0 then a else if a ≤ b then a else b
theorem rg_mp_or {a b : Nat} {Q Q' Q'' : List Nat → Prop} {V V' : List Nat → Nat} {e : List Nat → List Nat} (hV : ∀ es, Q'' es → 0 < V es) (h : rg_mp a Q V) (h' : rg_mp b Q' V') (hq : ∀ es, Q'' es ↔ Q es ∨ ∃ es', es = e es' ∧ Q' es') (hv : ∀ es', V (e es') = V' es') : rg_mp (rg_ls a b) Q'' V := by
  unfold rg_ls
  rcases h with ⟨h1, h2⟩ | ⟨es, h1, h2, h3⟩
  · rw [if_pos h1]
    rcases h' with ⟨g1, g2⟩ | ⟨fs, g1, g2, g3⟩
    · refine Or.inl ⟨g1, fun es hes => ?_⟩
      rcases (hq es).mp hes with q | ⟨es', q, q2⟩
      · exact h2 es q
      · exact g2 es' q2
    · refine Or.inr ⟨e fs, (hq _).mpr (Or.inr ⟨fs, rfl, g1⟩), by rw [hv]; exact g2, fun es' hes => ?_⟩
      rcases (hq es').mp hes with q | ⟨fs', q, q2⟩
      · exact absurd q (h2 es')
      · rw [q, hv, hv]; exact g3 fs' q2
  · have hp : 0 < a := by rw [h2]; exact hV es ((hq es).mpr (Or.inl h1))
    rw [if_neg (by omega)]
    rcases h' with ⟨g1, g2⟩ | ⟨fs, g1, g2, g3⟩
    · rw [if_pos g1]
      refine Or.inr ⟨es, (hq _).mpr (Or.inl h1), h2, fun es' hes => ?_⟩
      rcases (hq es').mp hes with q | ⟨fs', q, q2⟩
      · exact h3 es' q
      · exact absurd q2 (g2 fs')
    · have hp2 : 0 < b := by rw [g2, ← hv]; exact hV _ ((hq _).mpr (Or.inr ⟨fs, rfl, g1⟩))
      rw [if_neg (by omega)]
      by_cases hab : a ≤ b
      · rw [if_pos hab]
        refine Or.inr ⟨es, (hq _).mpr (Or.inl h1), h2, fun es' hes => ?_⟩
        rcases (hq es').mp hes with q | ⟨fs', q, q2⟩
        · exact h3 es' q
        · rw [q, hv]; have := g3 fs' q2; omega
      · rw [if_neg hab]
        refine Or.inr ⟨e fs, (hq _).mpr (Or.inr ⟨fs, rfl, g1⟩), by rw [hv]; exact g2, fun es' hes => ?_⟩
        rcases (hq es').mp hes with q | ⟨fs', q, q2⟩
        · have := h3 es' q; rw [hv]; omega
        · rw [q, hv, hv]; exact g3 fs' q2
theorem rg_mp_congr {a : Nat} {Q Q' : List Nat → Prop} {V : List Nat → Nat} (h : rg_mp a Q V) (hq : ∀ es, Q' es ↔ Q es) : rg_mp a Q' V := by
  rcases h with ⟨h1, h2⟩ | ⟨es, h1, h2, h3⟩
  · exact Or.inl ⟨h1, fun es q => h2 es ((hq es).mp q)⟩
  · exact Or.inr ⟨es, (hq es).mpr h1, h2, fun es' q => h3 es' ((hq es').mp q)⟩
/-- the class's debts -/
def c_o (σ : am_H) (k : Nat) : Nat := (σ 17 k).toNat
def c_w (σ : am_H) (k : Nat) : Nat := (σ 18 k).toNat
def c_W (σ : am_H) (first last v : Nat) (es : List Nat) : Prop := rg_wy (c_o σ) (c_w σ) (σ 20) (fun k => 0 < σ 19 k) (σ 16 5).toNat (first + 1) first last v es
def CFo (σ : am_H) (m first last s v : Nat) (r : Int) : Prop := ∃ x : Nat, r = (x : Int) ∧ x < 1048576 ∧ rg_mp x (fun es => es.length = m ∧ c_W σ first last v es) (rg_V s)
def CLo (σ : am_H) (m first last s v k L : Nat) : Prop := rg_mp L (fun es => (∃ j es', es = j :: es' ∧ j < k) ∧ es.length = m ∧ c_W σ first last v es) (rg_V s)
theorem c_W_cons {σ : am_H} {first last v k : Nat} {es : List Nat} : c_W σ first last v (k :: es) ↔ v.testBit (c_w σ last) = false ∧ rg_ok (σ 20) (fun k => 0 < σ 19 k) (σ 16 5).toNat (first + 1) first k ∧ c_o σ k = c_w σ last ∧ c_W σ first k (v ||| 2 ^ c_w σ last) es := Iff.rfl
theorem CFo_0 {σ : am_H} {first last s v : Nat} {r : Int} (hs : s < 1048576) (hs0 : 0 < s) (hr : r = if c_w σ last = c_o σ first then (s : Int) else 0) : CFo σ 0 first last s v r := by
  by_cases h : c_w σ last = c_o σ first
  · rw [if_pos h] at hr
    exact ⟨s, hr, hs, Or.inr ⟨[], ⟨rfl, h⟩, rfl, fun es' q => by rw [List.eq_nil_of_length_eq_zero q.1]; exact Nat.le_refl _⟩⟩
  · rw [if_neg h] at hr
    exact ⟨0, hr, by decide, Or.inl ⟨rfl, fun es q => h (by have h2 := q.2; rw [List.eq_nil_of_length_eq_zero q.1] at h2; exact h2)⟩⟩
theorem CFo_vis {σ : am_H} {m first last s v : Nat} (h : v.testBit (c_w σ last) = true) : CFo σ (m + 1) first last s v 0 := by
  refine ⟨0, rfl, by decide, Or.inl ⟨rfl, fun es q => ?_⟩⟩
  cases es with
  | nil => exact absurd q.1 (by simp)
  | cons k es => have := (c_W_cons.mp q.2).1; rw [h] at this; exact absurd this (by decide)
theorem CLo_0 {σ : am_H} {m first last s v : Nat} : CLo σ m first last s v (first + 1) 0 := by
  refine Or.inl ⟨rfl, fun es q => ?_⟩
  obtain ⟨⟨j, es', rfl, hj⟩, -, q⟩ := q
  have := (c_W_cons.mp q).2.1.2.1
  omega
theorem CLo_no {σ : am_H} {m first last s v k L : Nat} (h : CLo σ m first last s v k L) (hn : ¬ (c_o σ k = c_w σ last ∧ σ 20 k = σ 20 first ∧ 0 < σ 19 k)) : CLo σ m first last s v (k + 1) L := by
  refine rg_mp_congr h (fun es => ⟨?_, ?_⟩)
  · rintro ⟨⟨j, es', rfl, hj⟩, q, q2⟩
    refine ⟨⟨j, es', rfl, ?_⟩, q, q2⟩
    have h2 := c_W_cons.mp q2
    by_cases e : j = k
    · exact absurd ⟨e ▸ h2.2.2.1, e ▸ h2.2.1.2.2.2, e ▸ h2.2.1.2.2.1⟩ hn
    · omega
  · rintro ⟨⟨j, es', rfl, hj⟩, q⟩
    exact ⟨⟨j, es', rfl, by omega⟩, q⟩
theorem CLo_yes {σ : am_H} {m first last s v k L : Nat} {r : Int} (h : CLo σ (m + 1) first last s v k L) (hs0 : 0 < s) (hk : k < (σ 16 5).toNat) (hf : first + 1 ≤ k) (hb : v.testBit (c_w σ last) = false) (h1 : c_o σ k = c_w σ last) (h2 : σ 20 k = σ 20 first) (h3 : 0 < σ 19 k) (hx : CFo σ m first k (s ||| 2 ^ k) (v ||| 2 ^ c_w σ last) r) : CLo σ (m + 1) first last s v (k + 1) (rg_ls L r.toNat) := by
  obtain ⟨x, rfl, -, hx⟩ := hx
  refine rg_mp_or (e := fun es => k :: es) (fun es _ => Nat.lt_of_lt_of_le hs0 (rg_V_ge es s)) h hx (fun es => ⟨?_, ?_⟩) (fun es' => rfl)
  · rintro ⟨⟨j, es', rfl, hj⟩, q, q2⟩
    by_cases e : j = k
    · subst e
      exact Or.inr ⟨es', rfl, by simpa using q, (c_W_cons.mp q2).2.2.2⟩
    · exact Or.inl ⟨⟨j, es', rfl, by omega⟩, q, q2⟩
  · rintro (⟨⟨j, es', rfl, hj⟩, q⟩ | ⟨es', rfl, q, q2⟩)
    · exact ⟨⟨j, es', rfl, by omega⟩, q⟩
    · exact ⟨⟨k, es', rfl, Nat.lt_succ_self k⟩, by simp [q], c_W_cons.mpr ⟨hb, ⟨hk, hf, h3, h2⟩, h1, q2⟩⟩
theorem CFo_end {σ : am_H} {m first last s v L : Nat} {r : Int} (h : CLo σ (m + 1) first last s v (σ 16 5).toNat L) (hr : r = (L : Int)) (hL : L < 1048576) : CFo σ (m + 1) first last s v r := by
  refine ⟨L, hr, hL, rg_mp_congr h (fun es => ⟨fun q => ⟨?_, q⟩, fun q => q.2⟩)⟩
  cases es with
  | nil => exact absurd q.1 (by simp)
  | cons k es => exact ⟨k, es, rfl, (c_W_cons.mp q.2).2.1.1⟩
theorem CFo_lt {σ : am_H} {m first last s v : Nat} {r : Int} (h : CFo σ m first last s v r) : r = (r.toNat : Int) ∧ r.toNat < 1048576 := by
  obtain ⟨x, rfl, h, -⟩ := h; exact ⟨rfl, h⟩
theorem rg_ls_lt {a b : Nat} (ha : a < 1048576) (hb : b < 1048576) : rg_ls a b < 1048576 := by
  unfold rg_ls; (repeat' split) <;> omega
theorem rg_shl' (k : Nat) (h : k < 20) : am_shl 1 (k : Int) = ((2 ^ k : Nat) : Int) ∧ 2 ^ k < 1048576 ∧ 0 < 2 ^ k := ⟨(rg_shl ⟨k, h⟩).1, (rg_shl ⟨k, h⟩).2, Nat.two_pow_pos k⟩
theorem rg_orl {b : Int} {s k : Nat} (hb : b = (s : Int)) (hs : s < 1048576) (hk : k < 20) {i : Int} (hi : i = (k : Int)) : am_or b (am_shl 1 i) = ((s ||| 2 ^ k : Nat) : Int) ∧ s ||| 2 ^ k < 1048576 := by
  have h := rg_shl' k hk
  rw [hb, hi, h.1, rg_or _ _ (by omega) (by omega)]
  exact ⟨rfl, Nat.or_lt_two_pow (n := 20) hs h.2.1⟩
theorem rg_orv {b : Int} {v p : Nat} (hb : b = (v : Int)) (hv : v < 256) (hp : p < 8) {i : Int} (hi : i = (p : Int)) : am_or b (am_shl 1 i) = ((v ||| 2 ^ p : Nat) : Int) ∧ v ||| 2 ^ p < 256 ∧ am_and (am_shr b i) 1 = if v.testBit p then 1 else 0 := by
  have h := rg_shl' p (by omega)
  rw [hb, hi, h.1, rg_or _ _ (by omega) (by omega)]
  exact ⟨rfl, rg_vis ⟨v, hv⟩ ⟨p, hp⟩, rg_bit ⟨v, hv⟩ ⟨p, hp⟩⟩
