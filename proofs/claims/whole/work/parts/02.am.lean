/-! AN ABSTRACT MACHINE over whole numbers: the kit's rows, with the world as a table of numbers -/
/-- a value: its tag (0 int, 1 long, 2 a cell of the world by its number) and its number -/
abbrev am_V : Type := Nat × Int
abbrev vi (x : Int) : am_V := (0, x)
abbrev vl (x : Int) : am_V := (1, x)
abbrev vr (c : Nat) : am_V := (2, Int.ofNat c)
/-- a cell's shape: kind (0 int[], 1 long[], 2 boolean[], 3 Shelf[], 10 + ci an object of vwCl), length or number of fields, its references -/
abbrev am_S : Type := Nat × Nat × List (Option Nat)
abbrev am_H : Type := Nat → Nat → Int
def R32 (x : Int) : Prop := -2147483648 ≤ x ∧ x < 2147483648
def R64 (x : Int) : Prop := -9223372036854775808 ≤ x ∧ x < 9223372036854775808
def w32 (x : Int) : Int := (Int32.ofInt x).toInt
def w64 (x : Int) : Int := (Int64.ofInt x).toInt
theorem w32_R (x : Int) : R32 (w32 x) := ⟨Int32.le_toInt _, Int32.toInt_lt _⟩
theorem w64_R (x : Int) : R64 (w64 x) := ⟨Int64.le_toInt _, Int64.toInt_lt _⟩
theorem R32_i (x : Int32) : R32 x.toInt := ⟨Int32.le_toInt _, Int32.toInt_lt _⟩
theorem R64_i (x : Int64) : R64 x.toInt := ⟨Int64.le_toInt _, Int64.toInt_lt _⟩
theorem w32_of (x : Int) : Int32.ofInt (w32 x) = Int32.ofInt x := Int32.ofInt_toInt _
theorem w64_of (x : Int) : Int64.ofInt (w64 x) = Int64.ofInt x := Int64.ofInt_toInt _
theorem R32_to {x : Int} (h : R32 x) : (Int32.ofInt x).toInt = x := Int32.toInt_ofInt_of_le h.1 h.2
theorem R64_to {x : Int} (h : R64 x) : (Int64.ofInt x).toInt = x := Int64.toInt_ofInt_of_le h.1 h.2
theorem w32_eq {x : Int} (h : R32 x) : w32 x = x := R32_to h
theorem w64_eq {x : Int} (h : R64 x) : w64 x = x := R64_to h
theorem R32_inj {x y : Int} (hx : R32 x) (hy : R32 y) (h : Int32.ofInt x = Int32.ofInt y) : x = y := by rw [← R32_to hx, ← R32_to hy, h]
theorem R64_inj {x y : Int} (hx : R64 x) (hy : R64 y) (h : Int64.ofInt x = Int64.ofInt y) : x = y := by rw [← R64_to hx, ← R64_to hy, h]
theorem R32_lt {x y : Int} (hx : R32 x) (hy : R32 y) : Int32.ofInt x < Int32.ofInt y ↔ x < y := by rw [Int32.lt_iff_toInt_lt, R32_to hx, R32_to hy]
theorem R32_le {x y : Int} (hx : R32 x) (hy : R32 y) : Int32.ofInt x ≤ Int32.ofInt y ↔ x ≤ y := by rw [Int32.le_iff_toInt_le, R32_to hx, R32_to hy]
theorem R32_eqi {x y : Int} (hx : R32 x) (hy : R32 y) : Int32.ofInt x = Int32.ofInt y ↔ x = y := ⟨R32_inj hx hy, fun h => by rw [h]⟩
theorem R64_lt {x y : Int} (hx : R64 x) (hy : R64 y) : Int64.ofInt x < Int64.ofInt y ↔ x < y := by rw [Int64.lt_iff_toInt_lt, R64_to hx, R64_to hy]
theorem R64_eqi {x y : Int} (hx : R64 x) (hy : R64 y) : Int64.ofInt x = Int64.ofInt y ↔ x = y := ⟨R64_inj hx hy, fun h => by rw [h]⟩
theorem R32_0 : R32 0 := by unfold R32; omega
theorem R64_0 : R64 0 := by unfold R64; omega
theorem R32_64 {x : Int} (h : R32 x) : R64 x := by unfold R32 at h; unfold R64; omega
theorem R32_z {x : Int} (hx : R32 x) : Int32.ofInt x = 0 ↔ x = 0 := R32_eqi hx R32_0
theorem R32_lz {x : Int} (hx : R32 x) : Int32.ofInt x < 0 ↔ x < 0 := R32_lt hx R32_0
theorem R32_lez {x : Int} (hx : R32 x) : Int32.ofInt x ≤ 0 ↔ x ≤ 0 := R32_le hx R32_0
theorem R32_zlt {x : Int} (hx : R32 x) : 0 < Int32.ofInt x ↔ 0 < x := R32_lt R32_0 hx
theorem R32_zle {x : Int} (hx : R32 x) : 0 ≤ Int32.ofInt x ↔ 0 ≤ x := R32_le R32_0 hx
theorem R32_cl {x : Int} (hx : R32 x) : (Int32.ofInt x).toNatClampNeg = x.toNat := by
  show (Int32.ofInt x).toInt.toNat = x.toNat
  rw [R32_to hx]
theorem R32_in {x : Int} {n : Nat} (hx : R32 x) (h0 : 0 ≤ x) (h1 : x < n) : vp_in (Int32.ofInt x) n := by
  unfold vp_in
  rw [R32_lz hx, R32_cl hx]
  omega
theorem w32_div {a b : Int} (ha : R32 a) (hb : R32 b) : Int32.ofInt (a.tdiv b) = Int32.ofInt a / Int32.ofInt b :=
  Int32.ofInt_tdiv ha.1 (Int.le_of_lt_add_one ha.2) hb.1 (Int.le_of_lt_add_one hb.2)
theorem w32_rem {a b : Int} (ha : R32 a) (hb : R32 b) : Int32.ofInt (a.tmod b) = Int32.ofInt a - Int32.ofInt a / Int32.ofInt b * Int32.ofInt b := by
  rw [← w32_div ha hb, ← Int32.ofInt_mul, ← Int32.ofInt_sub]
  congr 1
  have := Int.mul_tdiv_add_tmod a b
  rw [Int.mul_comm] at this
  omega
theorem R32_tdiv {a b : Int} (ha : R32 a) (hb : 0 < b) : R32 (a.tdiv b) := by
  unfold R32 at *
  rcases Int.le_total 0 a with h | h
  · have h1 := Int.tdiv_nonneg h (Int.le_of_lt hb)
    have h2 : a.tdiv b ≤ a := Int.tdiv_le_self b h
    omega
  · have e : a.tdiv b = -((-a).tdiv b) := by rw [Int.neg_tdiv, Int.neg_neg]
    have h3 : 0 ≤ -a := by omega
    have h1 := Int.tdiv_nonneg h3 (Int.le_of_lt hb)
    have h2 : (-a).tdiv b ≤ -a := Int.tdiv_le_self b h3
    omega
def am_and (a b : Int) : Int := (Int32.ofInt a &&& Int32.ofInt b).toInt
def am_or (a b : Int) : Int := (Int32.ofInt a ||| Int32.ofInt b).toInt
def am_xor (a b : Int) : Int := (Int32.ofInt a ^^^ Int32.ofInt b).toInt
def am_shl (a b : Int) : Int := (Int32.ofInt a <<< (Int32.ofInt b &&& 31)).toInt
def am_shr (a b : Int) : Int := (Int32.ofInt a >>> (Int32.ofInt b &&& 31)).toInt
def am_ushr (a b : Int) : Int := ((Int32.ofInt a).toUInt32 >>> ((Int32.ofInt b).toUInt32 &&& Int32.toUInt32 31)).toInt32.toInt
def am_i2b (a : Int) : Int := (Int32.ofInt a).toInt8.toInt32.toInt
def am_i2s (a : Int) : Int := (Int32.ofInt a).toInt16.toInt32.toInt
def am_lshl (a b : Int) : Int := (Int64.ofInt a <<< ((Int32.ofInt b).toInt64 &&& 63)).toInt
def am_land (a b : Int) : Int := (Int64.ofInt a &&& Int64.ofInt b).toInt
def am_lor (a b : Int) : Int := (Int64.ofInt a ||| Int64.ofInt b).toInt
/-- a value of the machine -/
def am_c (ad : Nat → Nat) (v : am_V) : Value := match v.1 with
  | 0 => .int (Int32.ofInt v.2)
  | 1 => .long (Int64.ofInt v.2)
  | _ => .ref (ad v.2.toNat)
def am_cl : List vw_C := vwCl
def am_ty (ci k : Nat) : FieldType := match ci with
  | 0 => tyX0 k
  | 1 => tyX1 k
  | 2 => tyX2 k
  | 3 => tyX3 k
  | 4 => tyX4 k
  | 5 => tyX6 k
  | 6 => tyX7 k
  | 7 => tyX8 k
  | 8 => tyX9 k
  | _ => tyX10 k
def am_isref (t : FieldType) : Bool := match t with
  | .object _ => true
  | .array _ => true
  | _ => false
def am_ro (ad : Nat → Nat) (r : Option Nat) : Option Nat := r.map ad
def am_fld (ad : Nat → Nat) (ci : Nat) (rs : List (Option Nat)) (f : Nat → Int) (k : Nat) : Value :=
  if am_isref (am_ty ci k) = true then va_rf (am_ro ad (rs.getD k none)) else .int (Int32.ofInt (f k))
def am_el (cA : Nat → ClassId) (ad : Nat → Nat) (x : am_S) (f : Nat → Int) : va_E := match x.1 with
  | 0 => .inl (cA 0, x.2.1, .inl (fun j => Int32.ofInt (f j)))
  | 1 => .inl (cA 1, x.2.1, .inr (.inl (fun j => Int64.ofInt (f j))))
  | 2 => .inl (cA 2, x.2.1, .inl (fun j => Int32.ofInt (f j)))
  | 3 => .inl (cA 3, x.2.1, .inr (.inr (.inr (.inr (fun j => am_ro ad (x.2.2.getD j none))))))
  | n => .inr (n - 10, (List.range x.2.1).map (am_fld ad (n - 10) x.2.2 f))
def am_w (cA : Nat → ClassId) (ad : Nat → Nat) (sh : List am_S) (σ : am_H) : va_W :=
  (List.range sh.length).map (fun c => (ad c, am_el cA ad (sh.getD c (0, 0, [])) (σ c)))
def am_tys (cA : Nat → ClassId) : List (ClassId × FieldType) := [(cA 0, .int), (cA 1, .long), (cA 2, .boolean), (cA 3, .object "OwedDays$Shelf")]
theorem am_w_get {cA : Nat → ClassId} {ad : Nat → Nat} {sh : List am_S} {σ : am_H} {c : Nat} {x : am_S} (h : sh[c]? = some x) : (am_w cA ad sh σ)[c]? = some (ad c, am_el cA ad x (σ c)) := by
  have hc : c < sh.length := (List.getElem?_eq_some_iff.mp h).1
  unfold am_w
  rw [List.getElem?_map, List.getElem?_range hc]
  simp only [Option.map_some]
  rw [List.getD_eq_getElem?_getD, h]
  rfl
theorem am_w_len (cA : Nat → ClassId) (ad : Nat → Nat) (sh : List am_S) (σ : am_H) : (am_w cA ad sh σ).length = sh.length := by
  unfold am_w; rw [List.length_map, List.length_range]
theorem am_w_of {cA : Nat → ClassId} {ad : Nat → Nat} {sh : List am_S} {σ : am_H} {c : Nat} {q : Nat × va_E} (h : (am_w cA ad sh σ)[c]? = some q) : ∃ x, sh[c]? = some x ∧ q = (ad c, am_el cA ad x (σ c)) := by
  have hc : c < (am_w cA ad sh σ).length := (List.getElem?_eq_some_iff.mp h).1
  rw [am_w_len] at hc
  have e := List.getElem?_eq_getElem hc
  rw [am_w_get e] at h
  exact ⟨_, e, (Option.some.inj h).symm⟩
theorem am_w_set {cA : Nat → ClassId} {ad : Nat → Nat} {sh : List am_S} {σ σ' : am_H} {c : Nat} {x x' : am_S} {y : va_E} (h : sh[c]? = some x) (hy : y = am_el cA ad x' (σ' c)) (ho : ∀ c', c' ≠ c → σ' c' = σ c') : (am_w cA ad sh σ).set c (ad c, y) = am_w cA ad (sh.set c x') σ' := by
  have hc : c < sh.length := (List.getElem?_eq_some_iff.mp h).1
  apply List.ext_getElem?
  intro i
  by_cases hi : i = c
  · subst hi
    rw [List.getElem?_set_self (by rw [am_w_len]; exact hc), am_w_get (x := x') (List.getElem?_set_self hc), hy]
  · rw [List.getElem?_set_ne (Ne.symm hi)]
    by_cases hl : i < sh.length
    · have e := List.getElem?_eq_getElem hl
      rw [am_w_get e, am_w_get (x := sh[i]) (by rw [List.getElem?_set_ne (Ne.symm hi)]; exact e), ho i hi]
    · rw [List.getElem?_eq_none (by rw [am_w_len]; omega), List.getElem?_eq_none (by rw [am_w_len, List.length_set]; omega)]
theorem am_w_set1 {cA : Nat → ClassId} {ad : Nat → Nat} {sh : List am_S} {σ σ' : am_H} {c : Nat} {x : am_S} {y : va_E} (h : sh[c]? = some x) (hy : y = am_el cA ad x (σ' c)) (ho : ∀ c', c' ≠ c → σ' c' = σ c') : (am_w cA ad sh σ).set c (ad c, y) = am_w cA ad sh σ' := by
  rw [am_w_set (x' := x) h hy ho]
  congr 1
  apply List.ext_getElem?
  intro i
  by_cases hi : i = c
  · subst hi
    rw [List.getElem?_set_self (List.getElem?_eq_some_iff.mp h).1, h]
  · rw [List.getElem?_set_ne (Ne.symm hi)]
def am_up (σ : am_H) (c k : Nat) (v : Int) : am_H := fun c' k' => if c' = c ∧ k' = k then v else σ c' k'
theorem am_up_ne {σ : am_H} {c k : Nat} {v : Int} (c' : Nat) (h : c' ≠ c) : am_up σ c k v c' = σ c' := by
  funext k'
  simp [am_up, h]
theorem am_up_at {σ : am_H} {c k : Nat} {v : Int} : am_up σ c k v c = fun k' => if k' = k then v else σ c k' := by
  funext k'
  simp [am_up]
/-- what values, shapes and numbers are sound -/
def am_okv (n : Nat) (v : am_V) : Prop := (v.1 = 0 ∧ R32 v.2) ∨ (v.1 = 1 ∧ R64 v.2) ∨ (v.1 = 2 ∧ 0 ≤ v.2 ∧ (v.2.toNat < n ∨ 1000 ≤ v.2.toNat))
def am_oks (sh : List am_S) : Prop := ∀ (c : Nat) (x : am_S), sh[c]? = some x → ∀ r, some r ∈ x.2.2 → r < sh.length
def am_okh (sh : List am_S) (σ : am_H) : Prop := ∀ (c : Nat) (x : am_S), sh[c]? = some x → ∀ k, (x.1 = 1 → R64 (σ c k)) ∧ (x.1 ≠ 1 → R32 (σ c k))
def am_sl (sh : List am_S) : Nat := (sh.map (fun x => x.2.1)).sum
theorem okv_i {n : Nat} {x : Int} (h : R32 x) : am_okv n (vi x) := Or.inl ⟨rfl, h⟩
theorem okv_l {n : Nat} {x : Int} (h : R64 x) : am_okv n (vl x) := Or.inr (Or.inl ⟨rfl, h⟩)
theorem okv_r {n c : Nat} (h : c < n ∨ 1000 ≤ c) : am_okv n (vr c) := Or.inr (Or.inr ⟨rfl, Int.natCast_nonneg c, h⟩)
theorem okv_iR {n : Nat} {x : Int} (h : am_okv n (vi x)) : R32 x := by
  rcases h with h | h | h
  · exact h.2
  · exact absurd (show (0 : Nat) = 1 from h.1) (by decide)
  · exact absurd (show (0 : Nat) = 2 from h.1) (by decide)
theorem okv_lR {n : Nat} {x : Int} (h : am_okv n (vl x)) : R64 x := by
  rcases h with h | h | h
  · exact absurd (show (1 : Nat) = 0 from h.1) (by decide)
  · exact h.2
  · exact absurd (show (1 : Nat) = 2 from h.1) (by decide)
theorem okv_mono {n n' : Nat} {v : am_V} (hn : n ≤ n') (h : am_okv n v) : am_okv n' v := by
  rcases h with h | h | ⟨h1, h2, h3⟩
  · exact Or.inl h
  · exact Or.inr (Or.inl h)
  · exact Or.inr (Or.inr ⟨h1, h2, by omega⟩)
theorem am_okh_up {sh : List am_S} {σ : am_H} {c k : Nat} {v : Int} {x : am_S} (h : am_okh sh σ) (hx : sh[c]? = some x) (hv : (x.1 = 1 → R64 v) ∧ (x.1 ≠ 1 → R32 v)) : am_okh sh (am_up σ c k v) := by
  intro c' x' h' k'
  unfold am_up
  by_cases e : c' = c ∧ k' = k
  · rw [if_pos e]
    obtain ⟨rfl, rfl⟩ := e
    cases hx.symm.trans h'
    exact hv
  · rw [if_neg e]
    exact h c' x' h' k'
/-- locals, by their places -/
def am_RL (ad : Nat → Nat) (L : List (Option am_V)) (ls : Array Slot) : Prop := ls.size = L.length ∧ lv_wf ls ∧ ∀ (i : Nat) (v : am_V), L[i]? = some (some v) → ls[i]? = some (.val (am_c ad v))
def am_lv (ad : Nat → Nat) (L : List (Option am_V)) : List (Nat × Value) := (List.range L.length).filterMap (fun i => (L.getD i none).map (fun v => (i, am_c ad v)))
theorem am_lv_mem {ad : Nat → Nat} {L : List (Option am_V)} {i : Nat} {v : am_V} (h : L[i]? = some (some v)) : (i, am_c ad v) ∈ am_lv ad L := by
  refine List.mem_filterMap.mpr ⟨i, List.mem_range.mpr (List.getElem?_eq_some_iff.mp h).1, ?_⟩
  rw [List.getD_eq_getElem?_getD, h]
  rfl
theorem am_lv_has {ad : Nat → Nat} {L : List (Option am_V)} {ls : Array Slot} (h : am_RL ad L ls) : lv_has ls L.length (am_lv ad L) := by
  refine ⟨h.1, h.2.1, fun q hq => ?_⟩
  obtain ⟨i, hi, he⟩ := List.mem_filterMap.mp hq
  have hl := List.mem_range.mp hi
  rw [List.getD_eq_getElem?_getD, List.getElem?_eq_getElem hl] at he
  cases hv : L[i] with
  | none => rw [hv] at he; simp at he
  | some v =>
    rw [hv] at he
    simp at he
    subst he
    exact h.2.2 i v (by rw [List.getElem?_eq_getElem hl, hv])
/-- a store of a value of one slot, of two -/
def am_st1 (L : List (Option am_V)) (i : Nat) (v : am_V) : List (Option am_V) := (List.range L.length).map (fun j => if j = i then some v else if j + 1 = i then (match L.getD j none with | some (1, _) => none | o => o) else L.getD j none)
def am_st2 (L : List (Option am_V)) (i : Nat) (v : am_V) : List (Option am_V) := (List.range L.length).map (fun j => if j = i then some v else if j = i + 1 then none else if j + 1 = i then (match L.getD j none with | some (1, _) => none | o => o) else L.getD j none)
theorem am_st1_of {L : List (Option am_V)} {i j : Nat} {v w : am_V} (h : (am_st1 L i v)[j]? = some (some w)) : (j = i ∧ w = v) ∨ (j ≠ i ∧ L[j]? = some (some w) ∧ (j + 1 = i → w.1 ≠ 1)) := by
  have hl : j < L.length := by
    have := (List.getElem?_eq_some_iff.mp h).1
    simpa [am_st1] using this
  unfold am_st1 at h
  rw [List.getElem?_map, List.getElem?_range hl] at h
  simp only [Option.map_some, Option.some.injEq] at h
  have e : L[j]? = some L[j] := List.getElem?_eq_getElem hl
  rw [List.getD_eq_getElem?_getD, e] at h
  simp only [Option.getD_some] at h
  by_cases a : j = i
  · rw [if_pos a] at h
    exact Or.inl ⟨a, (Option.some.inj h).symm⟩
  · rw [if_neg a] at h
    refine Or.inr ⟨a, ?_⟩
    by_cases b : j + 1 = i
    · rw [if_pos b] at h
      cases hv : L[j] with
      | none => rw [hv] at h; simp at h
      | some u =>
        rw [hv] at h
        obtain ⟨t, z⟩ := u
        by_cases ht : t = 1
        · subst ht; simp at h
        · have h' : w = (t, z) := by
            rcases t with _ | _ | t
            · simpa using h.symm
            · exact absurd rfl ht
            · simpa using h.symm
          subst h'
          exact ⟨by rw [e, hv], fun _ => ht⟩
    · rw [if_neg b] at h
      exact ⟨by rw [e, h], fun q => absurd q b⟩
theorem am_st2_of {L : List (Option am_V)} {i j : Nat} {v w : am_V} (h : (am_st2 L i v)[j]? = some (some w)) : (j = i ∧ w = v) ∨ (j ≠ i ∧ j ≠ i + 1 ∧ L[j]? = some (some w) ∧ (j + 1 = i → w.1 ≠ 1)) := by
  have hl : j < L.length := by
    have := (List.getElem?_eq_some_iff.mp h).1
    simpa [am_st2] using this
  unfold am_st2 at h
  rw [List.getElem?_map, List.getElem?_range hl] at h
  simp only [Option.map_some, Option.some.injEq] at h
  have e : L[j]? = some L[j] := List.getElem?_eq_getElem hl
  rw [List.getD_eq_getElem?_getD, e] at h
  simp only [Option.getD_some] at h
  by_cases a : j = i
  · rw [if_pos a] at h
    exact Or.inl ⟨a, (Option.some.inj h).symm⟩
  · rw [if_neg a] at h
    by_cases a2 : j = i + 1
    · rw [if_pos a2] at h; simp at h
    · rw [if_neg a2] at h
      refine Or.inr ⟨a, a2, ?_⟩
      by_cases b : j + 1 = i
      · rw [if_pos b] at h
        cases hv : L[j] with
        | none => rw [hv] at h; simp at h
        | some u =>
          rw [hv] at h
          obtain ⟨t, z⟩ := u
          by_cases ht : t = 1
          · subst ht; simp at h
          · have h' : w = (t, z) := by
              rcases t with _ | _ | t
              · simpa using h.symm
              · exact absurd rfl ht
              · simpa using h.symm
            subst h'
            exact ⟨by rw [e, hv], fun _ => ht⟩
      · rw [if_neg b] at h
        exact ⟨by rw [e, h], fun q => absurd q b⟩
theorem am_st1_len (L : List (Option am_V)) (i : Nat) (v : am_V) : (am_st1 L i v).length = L.length := by simp [am_st1]
theorem am_st2_len (L : List (Option am_V)) (i : Nat) (v : am_V) : (am_st2 L i v).length = L.length := by simp [am_st2]
theorem am_cat {ad : Nat → Nat} {v : am_V} (h : (am_c ad v).category = 2) : v.1 = 1 := by
  obtain ⟨t, z⟩ := v
  rcases t with _ | _ | t
  · simp [am_c, Value.category] at h
  · rfl
  · simp [am_c, Value.category] at h
theorem am_RL_st1 {ad : Nat → Nat} {L : List (Option am_V)} {i : Nat} {v : am_V} {ls' : Array Slot} (h : lv_has ls' L.length ((i, am_c ad v) :: (am_lv ad L).filter (fun q => !(q.1 == i) && !(q.1 + 1 == i && q.2.category == 2)))) : am_RL ad (am_st1 L i v) ls' := by
  refine ⟨by rw [am_st1_len]; exact h.1, h.2.1, fun j w hj => ?_⟩
  rcases am_st1_of hj with ⟨rfl, rfl⟩ | ⟨h1, h2, h3⟩
  · exact h.2.2 _ List.mem_cons_self
  · refine h.2.2 (j, am_c ad w) (List.mem_cons_of_mem _ (List.mem_filter.mpr ⟨am_lv_mem h2, ?_⟩))
    simp only [Bool.and_eq_true, Bool.not_eq_true', beq_eq_false_iff_ne, Bool.and_eq_false_iff]
    refine ⟨h1, ?_⟩
    by_cases b : j + 1 = i
    · exact Or.inr (fun q => h3 b (am_cat q))
    · exact Or.inl b
theorem am_RL_st2 {ad : Nat → Nat} {L : List (Option am_V)} {i : Nat} {v : am_V} {ls' : Array Slot} (h : lv_has ls' L.length ((i, am_c ad v) :: (am_lv ad L).filter (fun q => !(q.1 == i) && (!(q.1 == i + 1) && !(q.1 + 1 == i && q.2.category == 2))))) : am_RL ad (am_st2 L i v) ls' := by
  refine ⟨by rw [am_st2_len]; exact h.1, h.2.1, fun j w hj => ?_⟩
  rcases am_st2_of hj with ⟨rfl, rfl⟩ | ⟨h1, h4, h2, h3⟩
  · exact h.2.2 _ List.mem_cons_self
  · refine h.2.2 (j, am_c ad w) (List.mem_cons_of_mem _ (List.mem_filter.mpr ⟨am_lv_mem h2, ?_⟩))
    simp only [Bool.and_eq_true, Bool.not_eq_true', beq_eq_false_iff_ne, Bool.and_eq_false_iff]
    refine ⟨h1, h4, ?_⟩
    by_cases b : j + 1 = i
    · exact Or.inr (fun q => h3 b (am_cat q))
    · exact Or.inl b
